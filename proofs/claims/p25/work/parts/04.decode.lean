theorem dX0_init_0 : decode cX0_init 0 = .ok (.aload_n 0, 1) := by decide +kernel
theorem dX0_init_1 : decode cX0_init 1 = .ok (.invokespecial 3, 3) := by decide +kernel
theorem dX0_init_4 : decode cX0_init 4 = .ok (.aload_n 0, 1) := by decide +kernel
theorem dX0_init_5 : decode cX0_init 5 = .ok (.new 9, 3) := by decide +kernel
theorem dX0_init_8 : decode cX0_init 8 = .ok (.dup, 1) := by decide +kernel
theorem dX0_init_9 : decode cX0_init 9 = .ok (.invokespecial 11, 3) := by decide +kernel
theorem dX0_init_12 : decode cX0_init 12 = .ok (.putfield 12, 3) := by decide +kernel
theorem dX0_init_15 : decode cX0_init 15 = .ok (.aload_n 0, 1) := by decide +kernel
theorem dX0_init_16 : decode cX0_init 16 = .ok (.new 9, 3) := by decide +kernel
theorem dX0_init_19 : decode cX0_init 19 = .ok (.dup, 1) := by decide +kernel
theorem dX0_init_20 : decode cX0_init 20 = .ok (.invokespecial 11, 3) := by decide +kernel
theorem dX0_init_23 : decode cX0_init 23 = .ok (.putfield 18, 3) := by decide +kernel
theorem dX0_init_26 : decode cX0_init 26 = .ok (.return_, 1) := by decide +kernel
theorem dX0_countTaken_0 : decode cX0_countTaken 0 = .ok (.aload_n 0, 1) := by decide +kernel
theorem dX0_countTaken_1 : decode cX0_countTaken 1 = .ok (.getfield 12, 3) := by decide +kernel
theorem dX0_countTaken_4 : decode cX0_countTaken 4 = .ok (.invokevirtual 21, 3) := by decide +kernel
theorem dX0_countTaken_7 : decode cX0_countTaken 7 = .ok (.ireturn, 1) := by decide +kernel
theorem dX0_countKept_0 : decode cX0_countKept 0 = .ok (.aload_n 0, 1) := by decide +kernel
theorem dX0_countKept_1 : decode cX0_countKept 1 = .ok (.getfield 18, 3) := by decide +kernel
theorem dX0_countKept_4 : decode cX0_countKept 4 = .ok (.invokevirtual 21, 3) := by decide +kernel
theorem dX0_countKept_7 : decode cX0_countKept 7 = .ok (.ireturn, 1) := by decide +kernel
theorem dX0_take_0 : decode cX0_take 0 = .ok (.aload_n 0, 1) := by decide +kernel
theorem dX0_take_1 : decode cX0_take 1 = .ok (.getfield 12, 3) := by decide +kernel
theorem dX0_take_4 : decode cX0_take 4 = .ok (.invokevirtual 21, 3) := by decide +kernel
theorem dX0_take_7 : decode cX0_take 7 = .ok (.sipush 300, 3) := by decide +kernel
theorem dX0_take_10 : decode cX0_take 10 = .ok (.if_icmp .ge 13, 3) := by decide +kernel
theorem dX0_take_13 : decode cX0_take 13 = .ok (.aload_n 0, 1) := by decide +kernel
theorem dX0_take_14 : decode cX0_take 14 = .ok (.iload_n 1, 1) := by decide +kernel
theorem dX0_take_15 : decode cX0_take 15 = .ok (.iload_n 2, 1) := by decide +kernel
theorem dX0_take_16 : decode cX0_take 16 = .ok (.iload_n 3, 1) := by decide +kernel
theorem dX0_take_17 : decode cX0_take 17 = .ok (.invokevirtual 25, 3) := by decide +kernel
theorem dX0_take_20 : decode cX0_take 20 = .ok (.ifCond .eq 4, 3) := by decide +kernel
theorem dX0_take_23 : decode cX0_take 23 = .ok (.return_, 1) := by decide +kernel
theorem dX0_take_24 : decode cX0_take 24 = .ok (.new 29, 3) := by decide +kernel
theorem dX0_take_27 : decode cX0_take 27 = .ok (.dup, 1) := by decide +kernel
theorem dX0_take_28 : decode cX0_take 28 = .ok (.iload_n 1, 1) := by decide +kernel
theorem dX0_take_29 : decode cX0_take 29 = .ok (.iload_n 2, 1) := by decide +kernel
theorem dX0_take_30 : decode cX0_take 30 = .ok (.iload_n 3, 1) := by decide +kernel
theorem dX0_take_31 : decode cX0_take 31 = .ok (.iload 4, 2) := by decide +kernel
theorem dX0_take_33 : decode cX0_take 33 = .ok (.invokespecial 31, 3) := by decide +kernel
theorem dX0_take_36 : decode cX0_take 36 = .ok (.astore 5, 2) := by decide +kernel
theorem dX0_take_38 : decode cX0_take 38 = .ok (.aload_n 0, 1) := by decide +kernel
theorem dX0_take_39 : decode cX0_take 39 = .ok (.getfield 12, 3) := by decide +kernel
theorem dX0_take_42 : decode cX0_take 42 = .ok (.aload 5, 2) := by decide +kernel
theorem dX0_take_44 : decode cX0_take 44 = .ok (.invokevirtual 34, 3) := by decide +kernel
theorem dX0_take_47 : decode cX0_take 47 = .ok (.pop, 1) := by decide +kernel
theorem dX0_take_48 : decode cX0_take 48 = .ok (.aload_n 0, 1) := by decide +kernel
theorem dX0_take_49 : decode cX0_take 49 = .ok (.getfield 18, 3) := by decide +kernel
theorem dX0_take_52 : decode cX0_take 52 = .ok (.aload 5, 2) := by decide +kernel
theorem dX0_take_54 : decode cX0_take 54 = .ok (.invokevirtual 34, 3) := by decide +kernel
theorem dX0_take_57 : decode cX0_take 57 = .ok (.pop, 1) := by decide +kernel
theorem dX0_take_58 : decode cX0_take 58 = .ok (.return_, 1) := by decide +kernel
theorem dX0_keeps_0 : decode cX0_keeps 0 = .ok (.iconst 0, 1) := by decide +kernel
theorem dX0_keeps_1 : decode cX0_keeps 1 = .ok (.istore 4, 2) := by decide +kernel
theorem dX0_keeps_3 : decode cX0_keeps 3 = .ok (.iload 4, 2) := by decide +kernel
theorem dX0_keeps_5 : decode cX0_keeps 5 = .ok (.aload_n 0, 1) := by decide +kernel
theorem dX0_keeps_6 : decode cX0_keeps 6 = .ok (.getfield 18, 3) := by decide +kernel
theorem dX0_keeps_9 : decode cX0_keeps 9 = .ok (.invokevirtual 21, 3) := by decide +kernel
theorem dX0_keeps_12 : decode cX0_keeps 12 = .ok (.if_icmp .ge 32, 3) := by decide +kernel
theorem dX0_keeps_15 : decode cX0_keeps 15 = .ok (.aload_n 0, 1) := by decide +kernel
theorem dX0_keeps_16 : decode cX0_keeps 16 = .ok (.getfield 18, 3) := by decide +kernel
theorem dX0_keeps_19 : decode cX0_keeps 19 = .ok (.iload 4, 2) := by decide +kernel
theorem dX0_keeps_21 : decode cX0_keeps 21 = .ok (.invokevirtual 38, 3) := by decide +kernel
theorem dX0_keeps_24 : decode cX0_keeps 24 = .ok (.checkcast 29, 3) := by decide +kernel
theorem dX0_keeps_27 : decode cX0_keeps 27 = .ok (.iload_n 1, 1) := by decide +kernel
theorem dX0_keeps_28 : decode cX0_keeps 28 = .ok (.iload_n 2, 1) := by decide +kernel
theorem dX0_keeps_29 : decode cX0_keeps 29 = .ok (.iload_n 3, 1) := by decide +kernel
theorem dX0_keeps_30 : decode cX0_keeps 30 = .ok (.invokevirtual 42, 3) := by decide +kernel
theorem dX0_keeps_33 : decode cX0_keeps 33 = .ok (.ifCond .eq 5, 3) := by decide +kernel
theorem dX0_keeps_36 : decode cX0_keeps 36 = .ok (.iconst 1, 1) := by decide +kernel
theorem dX0_keeps_37 : decode cX0_keeps 37 = .ok (.ireturn, 1) := by decide +kernel
theorem dX0_keeps_38 : decode cX0_keeps 38 = .ok (.iinc 4 1, 3) := by decide +kernel
theorem dX0_keeps_41 : decode cX0_keeps 41 = .ok (.goto (-38), 3) := by decide +kernel
theorem dX0_keeps_44 : decode cX0_keeps 44 = .ok (.iconst 0, 1) := by decide +kernel
theorem dX0_keeps_45 : decode cX0_keeps 45 = .ok (.ireturn, 1) := by decide +kernel
theorem dX0_papersTell_0 : decode cX0_papersTell 0 = .ok (.iconst 0, 1) := by decide +kernel
theorem dX0_papersTell_1 : decode cX0_papersTell 1 = .ok (.istore 5, 2) := by decide +kernel
theorem dX0_papersTell_3 : decode cX0_papersTell 3 = .ok (.iload 5, 2) := by decide +kernel
theorem dX0_papersTell_5 : decode cX0_papersTell 5 = .ok (.aload_n 0, 1) := by decide +kernel
theorem dX0_papersTell_6 : decode cX0_papersTell 6 = .ok (.getfield 12, 3) := by decide +kernel
theorem dX0_papersTell_9 : decode cX0_papersTell 9 = .ok (.invokevirtual 21, 3) := by decide +kernel
theorem dX0_papersTell_12 : decode cX0_papersTell 12 = .ok (.if_icmp .ge 46, 3) := by decide +kernel
theorem dX0_papersTell_15 : decode cX0_papersTell 15 = .ok (.aload_n 0, 1) := by decide +kernel
theorem dX0_papersTell_16 : decode cX0_papersTell 16 = .ok (.getfield 12, 3) := by decide +kernel
theorem dX0_papersTell_19 : decode cX0_papersTell 19 = .ok (.iload 5, 2) := by decide +kernel
theorem dX0_papersTell_21 : decode cX0_papersTell 21 = .ok (.invokevirtual 38, 3) := by decide +kernel
theorem dX0_papersTell_24 : decode cX0_papersTell 24 = .ok (.checkcast 29, 3) := by decide +kernel
theorem dX0_papersTell_27 : decode cX0_papersTell 27 = .ok (.astore 6, 2) := by decide +kernel
theorem dX0_papersTell_29 : decode cX0_papersTell 29 = .ok (.aload 6, 2) := by decide +kernel
theorem dX0_papersTell_31 : decode cX0_papersTell 31 = .ok (.iload_n 1, 1) := by decide +kernel
theorem dX0_papersTell_32 : decode cX0_papersTell 32 = .ok (.iload_n 2, 1) := by decide +kernel
theorem dX0_papersTell_33 : decode cX0_papersTell 33 = .ok (.iload_n 3, 1) := by decide +kernel
theorem dX0_papersTell_34 : decode cX0_papersTell 34 = .ok (.invokevirtual 42, 3) := by decide +kernel
theorem dX0_papersTell_37 : decode cX0_papersTell 37 = .ok (.ifCond .eq 15, 3) := by decide +kernel
theorem dX0_papersTell_40 : decode cX0_papersTell 40 = .ok (.aload 6, 2) := by decide +kernel
theorem dX0_papersTell_42 : decode cX0_papersTell 42 = .ok (.getfield 45, 3) := by decide +kernel
theorem dX0_papersTell_45 : decode cX0_papersTell 45 = .ok (.iload 4, 2) := by decide +kernel
theorem dX0_papersTell_47 : decode cX0_papersTell 47 = .ok (.if_icmp .le 5, 3) := by decide +kernel
theorem dX0_papersTell_50 : decode cX0_papersTell 50 = .ok (.iconst 1, 1) := by decide +kernel
theorem dX0_papersTell_51 : decode cX0_papersTell 51 = .ok (.ireturn, 1) := by decide +kernel
theorem dX0_papersTell_52 : decode cX0_papersTell 52 = .ok (.iinc 5 1, 3) := by decide +kernel
theorem dX0_papersTell_55 : decode cX0_papersTell 55 = .ok (.goto (-52), 3) := by decide +kernel
theorem dX0_papersTell_58 : decode cX0_papersTell 58 = .ok (.iconst 0, 1) := by decide +kernel
theorem dX0_papersTell_59 : decode cX0_papersTell 59 = .ok (.ireturn, 1) := by decide +kernel
theorem dX0_eraseDue_0 : decode cX0_eraseDue 0 = .ok (.iconst 0, 1) := by decide +kernel
theorem dX0_eraseDue_1 : decode cX0_eraseDue 1 = .ok (.istore_n 2, 1) := by decide +kernel
theorem dX0_eraseDue_2 : decode cX0_eraseDue 2 = .ok (.aload_n 0, 1) := by decide +kernel
theorem dX0_eraseDue_3 : decode cX0_eraseDue 3 = .ok (.getfield 18, 3) := by decide +kernel
theorem dX0_eraseDue_6 : decode cX0_eraseDue 6 = .ok (.invokevirtual 21, 3) := by decide +kernel
theorem dX0_eraseDue_9 : decode cX0_eraseDue 9 = .ok (.iconst 1, 1) := by decide +kernel
theorem dX0_eraseDue_10 : decode cX0_eraseDue 10 = .ok (.isub, 1) := by decide +kernel
theorem dX0_eraseDue_11 : decode cX0_eraseDue 11 = .ok (.istore_n 3, 1) := by decide +kernel
theorem dX0_eraseDue_12 : decode cX0_eraseDue 12 = .ok (.iload_n 3, 1) := by decide +kernel
theorem dX0_eraseDue_13 : decode cX0_eraseDue 13 = .ok (.ifCond .lt 39, 3) := by decide +kernel
theorem dX0_eraseDue_16 : decode cX0_eraseDue 16 = .ok (.aload_n 0, 1) := by decide +kernel
theorem dX0_eraseDue_17 : decode cX0_eraseDue 17 = .ok (.getfield 18, 3) := by decide +kernel
theorem dX0_eraseDue_20 : decode cX0_eraseDue 20 = .ok (.iload_n 3, 1) := by decide +kernel
theorem dX0_eraseDue_21 : decode cX0_eraseDue 21 = .ok (.invokevirtual 38, 3) := by decide +kernel
theorem dX0_eraseDue_24 : decode cX0_eraseDue 24 = .ok (.checkcast 29, 3) := by decide +kernel
theorem dX0_eraseDue_27 : decode cX0_eraseDue 27 = .ok (.getfield 45, 3) := by decide +kernel
theorem dX0_eraseDue_30 : decode cX0_eraseDue 30 = .ok (.iload_n 1, 1) := by decide +kernel
theorem dX0_eraseDue_31 : decode cX0_eraseDue 31 = .ok (.if_icmp .gt 15, 3) := by decide +kernel
theorem dX0_eraseDue_34 : decode cX0_eraseDue 34 = .ok (.aload_n 0, 1) := by decide +kernel
theorem dX0_eraseDue_35 : decode cX0_eraseDue 35 = .ok (.getfield 18, 3) := by decide +kernel
theorem dX0_eraseDue_38 : decode cX0_eraseDue 38 = .ok (.iload_n 3, 1) := by decide +kernel
theorem dX0_eraseDue_39 : decode cX0_eraseDue 39 = .ok (.invokevirtual 49, 3) := by decide +kernel
theorem dX0_eraseDue_42 : decode cX0_eraseDue 42 = .ok (.pop, 1) := by decide +kernel
theorem dX0_eraseDue_43 : decode cX0_eraseDue 43 = .ok (.iinc 2 1, 3) := by decide +kernel
theorem dX0_eraseDue_46 : decode cX0_eraseDue 46 = .ok (.iinc 3 (-1), 3) := by decide +kernel
theorem dX0_eraseDue_49 : decode cX0_eraseDue 49 = .ok (.goto (-37), 3) := by decide +kernel
theorem dX0_eraseDue_52 : decode cX0_eraseDue 52 = .ok (.iload_n 2, 1) := by decide +kernel
theorem dX0_eraseDue_53 : decode cX0_eraseDue 53 = .ok (.ireturn, 1) := by decide +kernel
theorem dX1_init_0 : decode cX1_init 0 = .ok (.aload_n 0, 1) := by decide +kernel
theorem dX1_init_1 : decode cX1_init 1 = .ok (.invokespecial 3, 3) := by decide +kernel
theorem dX1_init_4 : decode cX1_init 4 = .ok (.aload_n 0, 1) := by decide +kernel
theorem dX1_init_5 : decode cX1_init 5 = .ok (.iconst 0, 1) := by decide +kernel
theorem dX1_init_6 : decode cX1_init 6 = .ok (.putfield 9, 3) := by decide +kernel
theorem dX1_init_9 : decode cX1_init 9 = .ok (.aload_n 0, 1) := by decide +kernel
theorem dX1_init_10 : decode cX1_init 10 = .ok (.bipush 50, 2) := by decide +kernel
theorem dX1_init_12 : decode cX1_init 12 = .ok (.putfield 15, 3) := by decide +kernel
theorem dX1_init_15 : decode cX1_init 15 = .ok (.aload_n 0, 1) := by decide +kernel
theorem dX1_init_16 : decode cX1_init 16 = .ok (.iconst 1, 1) := by decide +kernel
theorem dX1_init_17 : decode cX1_init 17 = .ok (.putfield 18, 3) := by decide +kernel
theorem dX1_init_20 : decode cX1_init 20 = .ok (.aload_n 0, 1) := by decide +kernel
theorem dX1_init_21 : decode cX1_init 21 = .ok (.iload_n 1, 1) := by decide +kernel
theorem dX1_init_22 : decode cX1_init 22 = .ok (.putfield 22, 3) := by decide +kernel
theorem dX1_init_25 : decode cX1_init 25 = .ok (.return_, 1) := by decide +kernel
theorem dX2_init_0 : decode cX2_init 0 = .ok (.aload_n 0, 1) := by decide +kernel
theorem dX2_init_1 : decode cX2_init 1 = .ok (.invokespecial 1, 3) := by decide +kernel
theorem dX2_init_4 : decode cX2_init 4 = .ok (.aload_n 0, 1) := by decide +kernel
theorem dX2_init_5 : decode cX2_init 5 = .ok (.iload_n 1, 1) := by decide +kernel
theorem dX2_init_6 : decode cX2_init 6 = .ok (.putfield 7, 3) := by decide +kernel
theorem dX2_init_9 : decode cX2_init 9 = .ok (.aload_n 0, 1) := by decide +kernel
theorem dX2_init_10 : decode cX2_init 10 = .ok (.iload_n 2, 1) := by decide +kernel
theorem dX2_init_11 : decode cX2_init 11 = .ok (.putfield 13, 3) := by decide +kernel
theorem dX2_init_14 : decode cX2_init 14 = .ok (.aload_n 0, 1) := by decide +kernel
theorem dX2_init_15 : decode cX2_init 15 = .ok (.iload_n 3, 1) := by decide +kernel
theorem dX2_init_16 : decode cX2_init 16 = .ok (.putfield 16, 3) := by decide +kernel
theorem dX2_init_19 : decode cX2_init 19 = .ok (.aload_n 0, 1) := by decide +kernel
theorem dX2_init_20 : decode cX2_init 20 = .ok (.iload 4, 2) := by decide +kernel
theorem dX2_init_22 : decode cX2_init 22 = .ok (.putfield 19, 3) := by decide +kernel
theorem dX2_init_25 : decode cX2_init 25 = .ok (.return_, 1) := by decide +kernel
theorem dX2_isOf_0 : decode cX2_isOf 0 = .ok (.aload_n 0, 1) := by decide +kernel
theorem dX2_isOf_1 : decode cX2_isOf 1 = .ok (.getfield 7, 3) := by decide +kernel
theorem dX2_isOf_4 : decode cX2_isOf 4 = .ok (.iload_n 1, 1) := by decide +kernel
theorem dX2_isOf_5 : decode cX2_isOf 5 = .ok (.if_icmp .ne 23, 3) := by decide +kernel
theorem dX2_isOf_8 : decode cX2_isOf 8 = .ok (.aload_n 0, 1) := by decide +kernel
theorem dX2_isOf_9 : decode cX2_isOf 9 = .ok (.getfield 13, 3) := by decide +kernel
theorem dX2_isOf_12 : decode cX2_isOf 12 = .ok (.iload_n 2, 1) := by decide +kernel
theorem dX2_isOf_13 : decode cX2_isOf 13 = .ok (.if_icmp .ne 15, 3) := by decide +kernel
theorem dX2_isOf_16 : decode cX2_isOf 16 = .ok (.aload_n 0, 1) := by decide +kernel
theorem dX2_isOf_17 : decode cX2_isOf 17 = .ok (.getfield 16, 3) := by decide +kernel
theorem dX2_isOf_20 : decode cX2_isOf 20 = .ok (.iload_n 3, 1) := by decide +kernel
theorem dX2_isOf_21 : decode cX2_isOf 21 = .ok (.if_icmp .ne 7, 3) := by decide +kernel
theorem dX2_isOf_24 : decode cX2_isOf 24 = .ok (.iconst 1, 1) := by decide +kernel
theorem dX2_isOf_25 : decode cX2_isOf 25 = .ok (.goto 4, 3) := by decide +kernel
theorem dX2_isOf_28 : decode cX2_isOf 28 = .ok (.iconst 0, 1) := by decide +kernel
theorem dX2_isOf_29 : decode cX2_isOf 29 = .ok (.ireturn, 1) := by decide +kernel
theorem dX3_init_0 : decode cX3_init 0 = .ok (.aload_n 0, 1) := by decide +kernel
theorem dX3_init_1 : decode cX3_init 1 = .ok (.invokespecial 3, 3) := by decide +kernel
theorem dX3_init_4 : decode cX3_init 4 = .ok (.aload_n 0, 1) := by decide +kernel
theorem dX3_init_5 : decode cX3_init 5 = .ok (.iconst 0, 1) := by decide +kernel
theorem dX3_init_6 : decode cX3_init 6 = .ok (.putfield 9, 3) := by decide +kernel
theorem dX3_init_9 : decode cX3_init 9 = .ok (.aload_n 0, 1) := by decide +kernel
theorem dX3_init_10 : decode cX3_init 10 = .ok (.iconst 1, 1) := by decide +kernel
theorem dX3_init_11 : decode cX3_init 11 = .ok (.putfield 15, 3) := by decide +kernel
theorem dX3_init_14 : decode cX3_init 14 = .ok (.aload_n 0, 1) := by decide +kernel
theorem dX3_init_15 : decode cX3_init 15 = .ok (.iconst 0, 1) := by decide +kernel
theorem dX3_init_16 : decode cX3_init 16 = .ok (.putfield 18, 3) := by decide +kernel
theorem dX3_init_19 : decode cX3_init 19 = .ok (.aload_n 0, 1) := by decide +kernel
theorem dX3_init_20 : decode cX3_init 20 = .ok (.iconst 3, 1) := by decide +kernel
theorem dX3_init_21 : decode cX3_init 21 = .ok (.newarray .int, 2) := by decide +kernel
theorem dX3_init_23 : decode cX3_init 23 = .ok (.putfield 22, 3) := by decide +kernel
theorem dX3_init_26 : decode cX3_init 26 = .ok (.iconst 0, 1) := by decide +kernel
theorem dX3_init_27 : decode cX3_init 27 = .ok (.istore_n 1, 1) := by decide +kernel
theorem dX3_init_28 : decode cX3_init 28 = .ok (.iload_n 1, 1) := by decide +kernel
theorem dX3_init_29 : decode cX3_init 29 = .ok (.aload_n 0, 1) := by decide +kernel
theorem dX3_init_30 : decode cX3_init 30 = .ok (.getfield 22, 3) := by decide +kernel
theorem dX3_init_33 : decode cX3_init 33 = .ok (.arraylength, 1) := by decide +kernel
theorem dX3_init_34 : decode cX3_init 34 = .ok (.if_icmp .ge 17, 3) := by decide +kernel
theorem dX3_init_37 : decode cX3_init 37 = .ok (.aload_n 0, 1) := by decide +kernel
theorem dX3_init_38 : decode cX3_init 38 = .ok (.getfield 22, 3) := by decide +kernel
theorem dX3_init_41 : decode cX3_init 41 = .ok (.iload_n 1, 1) := by decide +kernel
theorem dX3_init_42 : decode cX3_init 42 = .ok (.bipush 7, 2) := by decide +kernel
theorem dX3_init_44 : decode cX3_init 44 = .ok (.iastore, 1) := by decide +kernel
theorem dX3_init_45 : decode cX3_init 45 = .ok (.iinc 1 1, 3) := by decide +kernel
theorem dX3_init_48 : decode cX3_init 48 = .ok (.goto (-20), 3) := by decide +kernel
theorem dX3_init_51 : decode cX3_init 51 = .ok (.return_, 1) := by decide +kernel
theorem dX3_setVote_0 : decode cX3_setVote 0 = .ok (.iload_n 1, 1) := by decide +kernel
theorem dX3_setVote_1 : decode cX3_setVote 1 = .ok (.ifCond .lt 19, 3) := by decide +kernel
theorem dX3_setVote_4 : decode cX3_setVote 4 = .ok (.iload_n 1, 1) := by decide +kernel
theorem dX3_setVote_5 : decode cX3_setVote 5 = .ok (.aload_n 0, 1) := by decide +kernel
theorem dX3_setVote_6 : decode cX3_setVote 6 = .ok (.getfield 22, 3) := by decide +kernel
theorem dX3_setVote_9 : decode cX3_setVote 9 = .ok (.arraylength, 1) := by decide +kernel
theorem dX3_setVote_10 : decode cX3_setVote 10 = .ok (.if_icmp .ge 10, 3) := by decide +kernel
theorem dX3_setVote_13 : decode cX3_setVote 13 = .ok (.aload_n 0, 1) := by decide +kernel
theorem dX3_setVote_14 : decode cX3_setVote 14 = .ok (.getfield 22, 3) := by decide +kernel
theorem dX3_setVote_17 : decode cX3_setVote 17 = .ok (.iload_n 1, 1) := by decide +kernel
theorem dX3_setVote_18 : decode cX3_setVote 18 = .ok (.iload_n 2, 1) := by decide +kernel
theorem dX3_setVote_19 : decode cX3_setVote 19 = .ok (.iastore, 1) := by decide +kernel
theorem dX3_setVote_20 : decode cX3_setVote 20 = .ok (.return_, 1) := by decide +kernel
theorem dX3_daysKept_0 : decode cX3_daysKept 0 = .ok (.iconst 0, 1) := by decide +kernel
theorem dX3_daysKept_1 : decode cX3_daysKept 1 = .ok (.istore_n 1, 1) := by decide +kernel
theorem dX3_daysKept_2 : decode cX3_daysKept 2 = .ok (.bipush 30, 2) := by decide +kernel
theorem dX3_daysKept_4 : decode cX3_daysKept 4 = .ok (.istore_n 2, 1) := by decide +kernel
theorem dX3_daysKept_5 : decode cX3_daysKept 5 = .ok (.iconst 1, 1) := by decide +kernel
theorem dX3_daysKept_6 : decode cX3_daysKept 6 = .ok (.istore_n 3, 1) := by decide +kernel
theorem dX3_daysKept_7 : decode cX3_daysKept 7 = .ok (.aload_n 0, 1) := by decide +kernel
theorem dX3_daysKept_8 : decode cX3_daysKept 8 = .ok (.getfield 22, 3) := by decide +kernel
theorem dX3_daysKept_11 : decode cX3_daysKept 11 = .ok (.astore 4, 2) := by decide +kernel
theorem dX3_daysKept_13 : decode cX3_daysKept 13 = .ok (.aload 4, 2) := by decide +kernel
theorem dX3_daysKept_15 : decode cX3_daysKept 15 = .ok (.arraylength, 1) := by decide +kernel
theorem dX3_daysKept_16 : decode cX3_daysKept 16 = .ok (.istore 5, 2) := by decide +kernel
theorem dX3_daysKept_18 : decode cX3_daysKept 18 = .ok (.iconst 0, 1) := by decide +kernel
theorem dX3_daysKept_19 : decode cX3_daysKept 19 = .ok (.istore 6, 2) := by decide +kernel
theorem dX3_daysKept_21 : decode cX3_daysKept 21 = .ok (.iload 6, 2) := by decide +kernel
theorem dX3_daysKept_23 : decode cX3_daysKept 23 = .ok (.iload 5, 2) := by decide +kernel
theorem dX3_daysKept_25 : decode cX3_daysKept 25 = .ok (.if_icmp .ge 35, 3) := by decide +kernel
theorem dX3_daysKept_28 : decode cX3_daysKept 28 = .ok (.aload 4, 2) := by decide +kernel
theorem dX3_daysKept_30 : decode cX3_daysKept 30 = .ok (.iload 6, 2) := by decide +kernel
theorem dX3_daysKept_32 : decode cX3_daysKept 32 = .ok (.iaload, 1) := by decide +kernel
theorem dX3_daysKept_33 : decode cX3_daysKept 33 = .ok (.istore 7, 2) := by decide +kernel
theorem dX3_daysKept_35 : decode cX3_daysKept 35 = .ok (.iload_n 1, 1) := by decide +kernel
theorem dX3_daysKept_36 : decode cX3_daysKept 36 = .ok (.iload 7, 2) := by decide +kernel
theorem dX3_daysKept_38 : decode cX3_daysKept 38 = .ok (.iadd, 1) := by decide +kernel
theorem dX3_daysKept_39 : decode cX3_daysKept 39 = .ok (.istore_n 1, 1) := by decide +kernel
theorem dX3_daysKept_40 : decode cX3_daysKept 40 = .ok (.iload_n 2, 1) := by decide +kernel
theorem dX3_daysKept_41 : decode cX3_daysKept 41 = .ok (.iload 7, 2) := by decide +kernel
theorem dX3_daysKept_43 : decode cX3_daysKept 43 = .ok (.invokestatic 26, 3) := by decide +kernel
theorem dX3_daysKept_46 : decode cX3_daysKept 46 = .ok (.istore_n 2, 1) := by decide +kernel
theorem dX3_daysKept_47 : decode cX3_daysKept 47 = .ok (.iload_n 3, 1) := by decide +kernel
theorem dX3_daysKept_48 : decode cX3_daysKept 48 = .ok (.iload 7, 2) := by decide +kernel
theorem dX3_daysKept_50 : decode cX3_daysKept 50 = .ok (.invokestatic 32, 3) := by decide +kernel
theorem dX3_daysKept_53 : decode cX3_daysKept 53 = .ok (.istore_n 3, 1) := by decide +kernel
theorem dX3_daysKept_54 : decode cX3_daysKept 54 = .ok (.iinc 6 1, 3) := by decide +kernel
theorem dX3_daysKept_57 : decode cX3_daysKept 57 = .ok (.goto (-36), 3) := by decide +kernel
theorem dX3_daysKept_60 : decode cX3_daysKept 60 = .ok (.iload_n 1, 1) := by decide +kernel
theorem dX3_daysKept_61 : decode cX3_daysKept 61 = .ok (.iload_n 2, 1) := by decide +kernel
theorem dX3_daysKept_62 : decode cX3_daysKept 62 = .ok (.isub, 1) := by decide +kernel
theorem dX3_daysKept_63 : decode cX3_daysKept 63 = .ok (.iload_n 3, 1) := by decide +kernel
theorem dX3_daysKept_64 : decode cX3_daysKept 64 = .ok (.isub, 1) := by decide +kernel
theorem dX3_daysKept_65 : decode cX3_daysKept 65 = .ok (.ireturn, 1) := by decide +kernel
theorem dX4_init_0 : decode cX4_init 0 = .ok (.aload_n 0, 1) := by decide +kernel
theorem dX4_init_1 : decode cX4_init 1 = .ok (.invokespecial 3, 3) := by decide +kernel
theorem dX4_init_4 : decode cX4_init 4 = .ok (.aload_n 0, 1) := by decide +kernel
theorem dX4_init_5 : decode cX4_init 5 = .ok (.iconst 0, 1) := by decide +kernel
theorem dX4_init_6 : decode cX4_init 6 = .ok (.putfield 9, 3) := by decide +kernel
theorem dX4_init_9 : decode cX4_init 9 = .ok (.aload_n 0, 1) := by decide +kernel
theorem dX4_init_10 : decode cX4_init 10 = .ok (.aconst_null, 1) := by decide +kernel
theorem dX4_init_11 : decode cX4_init 11 = .ok (.putfield 15, 3) := by decide +kernel
theorem dX4_init_14 : decode cX4_init 14 = .ok (.aload_n 0, 1) := by decide +kernel
theorem dX4_init_15 : decode cX4_init 15 = .ok (.iconst 0, 1) := by decide +kernel
theorem dX4_init_16 : decode cX4_init 16 = .ok (.putfield 19, 3) := by decide +kernel
theorem dX4_init_19 : decode cX4_init 19 = .ok (.aload_n 0, 1) := by decide +kernel
theorem dX4_init_20 : decode cX4_init 20 = .ok (.iconst 0, 1) := by decide +kernel
theorem dX4_init_21 : decode cX4_init 21 = .ok (.putfield 22, 3) := by decide +kernel
theorem dX4_init_24 : decode cX4_init 24 = .ok (.aload_n 0, 1) := by decide +kernel
theorem dX4_init_25 : decode cX4_init 25 = .ok (.iload_n 1, 1) := by decide +kernel
theorem dX4_init_26 : decode cX4_init 26 = .ok (.putfield 26, 3) := by decide +kernel
theorem dX4_init_29 : decode cX4_init 29 = .ok (.aload_n 0, 1) := by decide +kernel
theorem dX4_init_30 : decode cX4_init 30 = .ok (.iload_n 2, 1) := by decide +kernel
theorem dX4_init_31 : decode cX4_init 31 = .ok (.putfield 29, 3) := by decide +kernel
theorem dX4_init_34 : decode cX4_init 34 = .ok (.aload_n 0, 1) := by decide +kernel
theorem dX4_init_35 : decode cX4_init 35 = .ok (.iload_n 3, 1) := by decide +kernel
theorem dX4_init_36 : decode cX4_init 36 = .ok (.putfield 32, 3) := by decide +kernel
theorem dX4_init_39 : decode cX4_init 39 = .ok (.return_, 1) := by decide +kernel
theorem dX5_init_0 : decode cX5_init 0 = .ok (.aload_n 0, 1) := by decide +kernel
theorem dX5_init_1 : decode cX5_init 1 = .ok (.invokespecial 1, 3) := by decide +kernel
theorem dX5_init_4 : decode cX5_init 4 = .ok (.aload_n 0, 1) := by decide +kernel
theorem dX5_init_5 : decode cX5_init 5 = .ok (.bipush 8, 2) := by decide +kernel
theorem dX5_init_7 : decode cX5_init 7 = .ok (.anewarray 9, 3) := by decide +kernel
theorem dX5_init_10 : decode cX5_init 10 = .ok (.putfield 11, 3) := by decide +kernel
theorem dX5_init_13 : decode cX5_init 13 = .ok (.aload_n 0, 1) := by decide +kernel
theorem dX5_init_14 : decode cX5_init 14 = .ok (.iconst 4, 1) := by decide +kernel
theorem dX5_init_15 : decode cX5_init 15 = .ok (.anewarray 15, 3) := by decide +kernel
theorem dX5_init_18 : decode cX5_init 18 = .ok (.putfield 17, 3) := by decide +kernel
theorem dX5_init_21 : decode cX5_init 21 = .ok (.aload_n 0, 1) := by decide +kernel
theorem dX5_init_22 : decode cX5_init 22 = .ok (.new 21, 3) := by decide +kernel
theorem dX5_init_25 : decode cX5_init 25 = .ok (.dup, 1) := by decide +kernel
theorem dX5_init_26 : decode cX5_init 26 = .ok (.invokespecial 23, 3) := by decide +kernel
theorem dX5_init_29 : decode cX5_init 29 = .ok (.putfield 24, 3) := by decide +kernel
theorem dX5_init_32 : decode cX5_init 32 = .ok (.aload_n 0, 1) := by decide +kernel
theorem dX5_init_33 : decode cX5_init 33 = .ok (.new 28, 3) := by decide +kernel
theorem dX5_init_36 : decode cX5_init 36 = .ok (.dup, 1) := by decide +kernel
theorem dX5_init_37 : decode cX5_init 37 = .ok (.invokespecial 30, 3) := by decide +kernel
theorem dX5_init_40 : decode cX5_init 40 = .ok (.putfield 31, 3) := by decide +kernel
theorem dX5_init_43 : decode cX5_init 43 = .ok (.aload_n 0, 1) := by decide +kernel
theorem dX5_init_44 : decode cX5_init 44 = .ok (.iconst 0, 1) := by decide +kernel
theorem dX5_init_45 : decode cX5_init 45 = .ok (.putfield 35, 3) := by decide +kernel
theorem dX5_init_48 : decode cX5_init 48 = .ok (.aload_n 0, 1) := by decide +kernel
theorem dX5_init_49 : decode cX5_init 49 = .ok (.iconst 0, 1) := by decide +kernel
theorem dX5_init_50 : decode cX5_init 50 = .ok (.putfield 39, 3) := by decide +kernel
theorem dX5_init_53 : decode cX5_init 53 = .ok (.iconst 0, 1) := by decide +kernel
theorem dX5_init_54 : decode cX5_init 54 = .ok (.istore_n 1, 1) := by decide +kernel
theorem dX5_init_55 : decode cX5_init 55 = .ok (.iload_n 1, 1) := by decide +kernel
theorem dX5_init_56 : decode cX5_init 56 = .ok (.aload_n 0, 1) := by decide +kernel
theorem dX5_init_57 : decode cX5_init 57 = .ok (.getfield 11, 3) := by decide +kernel
theorem dX5_init_60 : decode cX5_init 60 = .ok (.arraylength, 1) := by decide +kernel
theorem dX5_init_61 : decode cX5_init 61 = .ok (.if_icmp .ge 22, 3) := by decide +kernel
theorem dX5_init_64 : decode cX5_init 64 = .ok (.aload_n 0, 1) := by decide +kernel
theorem dX5_init_65 : decode cX5_init 65 = .ok (.getfield 11, 3) := by decide +kernel
theorem dX5_init_68 : decode cX5_init 68 = .ok (.iload_n 1, 1) := by decide +kernel
theorem dX5_init_69 : decode cX5_init 69 = .ok (.new 9, 3) := by decide +kernel
theorem dX5_init_72 : decode cX5_init 72 = .ok (.dup, 1) := by decide +kernel
theorem dX5_init_73 : decode cX5_init 73 = .ok (.invokespecial 42, 3) := by decide +kernel
theorem dX5_init_76 : decode cX5_init 76 = .ok (.aastore, 1) := by decide +kernel
theorem dX5_init_77 : decode cX5_init 77 = .ok (.iinc 1 1, 3) := by decide +kernel
theorem dX5_init_80 : decode cX5_init 80 = .ok (.goto (-25), 3) := by decide +kernel
theorem dX5_init_83 : decode cX5_init 83 = .ok (.iconst 0, 1) := by decide +kernel
theorem dX5_init_84 : decode cX5_init 84 = .ok (.istore_n 1, 1) := by decide +kernel
theorem dX5_init_85 : decode cX5_init 85 = .ok (.iload_n 1, 1) := by decide +kernel
theorem dX5_init_86 : decode cX5_init 86 = .ok (.aload_n 0, 1) := by decide +kernel
theorem dX5_init_87 : decode cX5_init 87 = .ok (.getfield 17, 3) := by decide +kernel
theorem dX5_init_90 : decode cX5_init 90 = .ok (.arraylength, 1) := by decide +kernel
theorem dX5_init_91 : decode cX5_init 91 = .ok (.if_icmp .ge 23, 3) := by decide +kernel
theorem dX5_init_94 : decode cX5_init 94 = .ok (.aload_n 0, 1) := by decide +kernel
theorem dX5_init_95 : decode cX5_init 95 = .ok (.getfield 17, 3) := by decide +kernel
theorem dX5_init_98 : decode cX5_init 98 = .ok (.iload_n 1, 1) := by decide +kernel
theorem dX5_init_99 : decode cX5_init 99 = .ok (.new 15, 3) := by decide +kernel
theorem dX5_init_102 : decode cX5_init 102 = .ok (.dup, 1) := by decide +kernel
theorem dX5_init_103 : decode cX5_init 103 = .ok (.iload_n 1, 1) := by decide +kernel
theorem dX5_init_104 : decode cX5_init 104 = .ok (.invokespecial 43, 3) := by decide +kernel
theorem dX5_init_107 : decode cX5_init 107 = .ok (.aastore, 1) := by decide +kernel
theorem dX5_init_108 : decode cX5_init 108 = .ok (.iinc 1 1, 3) := by decide +kernel
theorem dX5_init_111 : decode cX5_init 111 = .ok (.goto (-26), 3) := by decide +kernel
theorem dX5_init_114 : decode cX5_init 114 = .ok (.return_, 1) := by decide +kernel
theorem dX5_pay_0 : decode cX5_pay 0 = .ok (.aload_n 0, 1) := by decide +kernel
theorem dX5_pay_1 : decode cX5_pay 1 = .ok (.iload_n 1, 1) := by decide +kernel
theorem dX5_pay_2 : decode cX5_pay 2 = .ok (.invokevirtual 46, 3) := by decide +kernel
theorem dX5_pay_5 : decode cX5_pay 5 = .ok (.astore_n 3, 1) := by decide +kernel
theorem dX5_pay_6 : decode cX5_pay 6 = .ok (.aload_n 3, 1) := by decide +kernel
theorem dX5_pay_7 : decode cX5_pay 7 = .ok (.ifnonnull 13, 3) := by decide +kernel
theorem dX5_pay_10 : decode cX5_pay 10 = .ok (.new 50, 3) := by decide +kernel
theorem dX5_pay_13 : decode cX5_pay 13 = .ok (.dup, 1) := by decide +kernel
theorem dX5_pay_14 : decode cX5_pay 14 = .ok (.ldc 52, 2) := by decide +kernel
theorem dX5_pay_16 : decode cX5_pay 16 = .ok (.invokespecial 54, 3) := by decide +kernel
theorem dX5_pay_19 : decode cX5_pay 19 = .ok (.athrow, 1) := by decide +kernel
theorem dX5_pay_20 : decode cX5_pay 20 = .ok (.iload_n 2, 1) := by decide +kernel
theorem dX5_pay_21 : decode cX5_pay 21 = .ok (.iconst 1, 1) := by decide +kernel
theorem dX5_pay_22 : decode cX5_pay 22 = .ok (.if_icmp .lt 10, 3) := by decide +kernel
theorem dX5_pay_25 : decode cX5_pay 25 = .ok (.iload_n 2, 1) := by decide +kernel
theorem dX5_pay_26 : decode cX5_pay 26 = .ok (.sipush 10000, 3) := by decide +kernel
theorem dX5_pay_29 : decode cX5_pay 29 = .ok (.if_icmp .le 13, 3) := by decide +kernel
theorem dX5_pay_32 : decode cX5_pay 32 = .ok (.new 57, 3) := by decide +kernel
theorem dX5_pay_35 : decode cX5_pay 35 = .ok (.dup, 1) := by decide +kernel
theorem dX5_pay_36 : decode cX5_pay 36 = .ok (.ldc 59, 2) := by decide +kernel
theorem dX5_pay_38 : decode cX5_pay 38 = .ok (.invokespecial 61, 3) := by decide +kernel
theorem dX5_pay_41 : decode cX5_pay 41 = .ok (.athrow, 1) := by decide +kernel
theorem dX5_pay_42 : decode cX5_pay 42 = .ok (.aload_n 3, 1) := by decide +kernel
theorem dX5_pay_43 : decode cX5_pay 43 = .ok (.getfield 62, 3) := by decide +kernel
theorem dX5_pay_46 : decode cX5_pay 46 = .ok (.ldc 65, 2) := by decide +kernel
theorem dX5_pay_48 : decode cX5_pay 48 = .ok (.iload_n 2, 1) := by decide +kernel
theorem dX5_pay_49 : decode cX5_pay 49 = .ok (.isub, 1) := by decide +kernel
theorem dX5_pay_50 : decode cX5_pay 50 = .ok (.if_icmp .le 13, 3) := by decide +kernel
theorem dX5_pay_53 : decode cX5_pay 53 = .ok (.new 66, 3) := by decide +kernel
theorem dX5_pay_56 : decode cX5_pay 56 = .ok (.dup, 1) := by decide +kernel
theorem dX5_pay_57 : decode cX5_pay 57 = .ok (.ldc 68, 2) := by decide +kernel
theorem dX5_pay_59 : decode cX5_pay 59 = .ok (.invokespecial 70, 3) := by decide +kernel
theorem dX5_pay_62 : decode cX5_pay 62 = .ok (.athrow, 1) := by decide +kernel
theorem dX5_pay_63 : decode cX5_pay 63 = .ok (.aload_n 3, 1) := by decide +kernel
theorem dX5_pay_64 : decode cX5_pay 64 = .ok (.dup, 1) := by decide +kernel
theorem dX5_pay_65 : decode cX5_pay 65 = .ok (.getfield 62, 3) := by decide +kernel
theorem dX5_pay_68 : decode cX5_pay 68 = .ok (.iload_n 2, 1) := by decide +kernel
theorem dX5_pay_69 : decode cX5_pay 69 = .ok (.iadd, 1) := by decide +kernel
theorem dX5_pay_70 : decode cX5_pay 70 = .ok (.putfield 62, 3) := by decide +kernel
theorem dX5_pay_73 : decode cX5_pay 73 = .ok (.aload_n 3, 1) := by decide +kernel
theorem dX5_pay_74 : decode cX5_pay 74 = .ok (.getfield 62, 3) := by decide +kernel
theorem dX5_pay_77 : decode cX5_pay 77 = .ok (.ireturn, 1) := by decide +kernel
theorem dX5_setStreet_0 : decode cX5_setStreet 0 = .ok (.aload_n 0, 1) := by decide +kernel
theorem dX5_setStreet_1 : decode cX5_setStreet 1 = .ok (.iload_n 1, 1) := by decide +kernel
theorem dX5_setStreet_2 : decode cX5_setStreet 2 = .ok (.invokevirtual 46, 3) := by decide +kernel
theorem dX5_setStreet_5 : decode cX5_setStreet 5 = .ok (.astore 4, 2) := by decide +kernel
theorem dX5_setStreet_7 : decode cX5_setStreet 7 = .ok (.aload 4, 2) := by decide +kernel
theorem dX5_setStreet_9 : decode cX5_setStreet 9 = .ok (.ifnonnull 13, 3) := by decide +kernel
theorem dX5_setStreet_12 : decode cX5_setStreet 12 = .ok (.new 50, 3) := by decide +kernel
theorem dX5_setStreet_15 : decode cX5_setStreet 15 = .ok (.dup, 1) := by decide +kernel
theorem dX5_setStreet_16 : decode cX5_setStreet 16 = .ok (.ldc 52, 2) := by decide +kernel
theorem dX5_setStreet_18 : decode cX5_setStreet 18 = .ok (.invokespecial 54, 3) := by decide +kernel
theorem dX5_setStreet_21 : decode cX5_setStreet 21 = .ok (.athrow, 1) := by decide +kernel
theorem dX5_setStreet_22 : decode cX5_setStreet 22 = .ok (.iload_n 2, 1) := by decide +kernel
theorem dX5_setStreet_23 : decode cX5_setStreet 23 = .ok (.ifCond .lt 9, 3) := by decide +kernel
theorem dX5_setStreet_26 : decode cX5_setStreet 26 = .ok (.iload_n 2, 1) := by decide +kernel
theorem dX5_setStreet_27 : decode cX5_setStreet 27 = .ok (.bipush 50, 2) := by decide +kernel
theorem dX5_setStreet_29 : decode cX5_setStreet 29 = .ok (.if_icmp .le 13, 3) := by decide +kernel
theorem dX5_setStreet_32 : decode cX5_setStreet 32 = .ok (.new 57, 3) := by decide +kernel
theorem dX5_setStreet_35 : decode cX5_setStreet 35 = .ok (.dup, 1) := by decide +kernel
theorem dX5_setStreet_36 : decode cX5_setStreet 36 = .ok (.ldc 71, 2) := by decide +kernel
theorem dX5_setStreet_38 : decode cX5_setStreet 38 = .ok (.invokespecial 61, 3) := by decide +kernel
theorem dX5_setStreet_41 : decode cX5_setStreet 41 = .ok (.athrow, 1) := by decide +kernel
theorem dX5_setStreet_42 : decode cX5_setStreet 42 = .ok (.aload 4, 2) := by decide +kernel
theorem dX5_setStreet_44 : decode cX5_setStreet 44 = .ok (.getfield 73, 3) := by decide +kernel
theorem dX5_setStreet_47 : decode cX5_setStreet 47 = .ok (.istore 5, 2) := by decide +kernel
theorem dX5_setStreet_49 : decode cX5_setStreet 49 = .ok (.aload 4, 2) := by decide +kernel
theorem dX5_setStreet_51 : decode cX5_setStreet 51 = .ok (.iload_n 2, 1) := by decide +kernel
theorem dX5_setStreet_52 : decode cX5_setStreet 52 = .ok (.putfield 73, 3) := by decide +kernel
theorem dX5_setStreet_55 : decode cX5_setStreet 55 = .ok (.aload 4, 2) := by decide +kernel
theorem dX5_setStreet_57 : decode cX5_setStreet 57 = .ok (.iload_n 3, 1) := by decide +kernel
theorem dX5_setStreet_58 : decode cX5_setStreet 58 = .ok (.putfield 76, 3) := by decide +kernel
theorem dX5_setStreet_61 : decode cX5_setStreet 61 = .ok (.iload 5, 2) := by decide +kernel
theorem dX5_setStreet_63 : decode cX5_setStreet 63 = .ok (.ireturn, 1) := by decide +kernel
theorem dX5_vote_0 : decode cX5_vote 0 = .ok (.aload_n 0, 1) := by decide +kernel
theorem dX5_vote_1 : decode cX5_vote 1 = .ok (.iload_n 1, 1) := by decide +kernel
theorem dX5_vote_2 : decode cX5_vote 2 = .ok (.invokevirtual 46, 3) := by decide +kernel
theorem dX5_vote_5 : decode cX5_vote 5 = .ok (.astore 4, 2) := by decide +kernel
theorem dX5_vote_7 : decode cX5_vote 7 = .ok (.aload 4, 2) := by decide +kernel
theorem dX5_vote_9 : decode cX5_vote 9 = .ok (.ifnonnull 13, 3) := by decide +kernel
theorem dX5_vote_12 : decode cX5_vote 12 = .ok (.new 50, 3) := by decide +kernel
theorem dX5_vote_15 : decode cX5_vote 15 = .ok (.dup, 1) := by decide +kernel
theorem dX5_vote_16 : decode cX5_vote 16 = .ok (.ldc 52, 2) := by decide +kernel
theorem dX5_vote_18 : decode cX5_vote 18 = .ok (.invokespecial 54, 3) := by decide +kernel
theorem dX5_vote_21 : decode cX5_vote 21 = .ok (.athrow, 1) := by decide +kernel
theorem dX5_vote_22 : decode cX5_vote 22 = .ok (.iload_n 2, 1) := by decide +kernel
theorem dX5_vote_23 : decode cX5_vote 23 = .ok (.ifCond .lt 8, 3) := by decide +kernel
theorem dX5_vote_26 : decode cX5_vote 26 = .ok (.iload_n 2, 1) := by decide +kernel
theorem dX5_vote_27 : decode cX5_vote 27 = .ok (.iconst 3, 1) := by decide +kernel
theorem dX5_vote_28 : decode cX5_vote 28 = .ok (.if_icmp .lt 13, 3) := by decide +kernel
theorem dX5_vote_31 : decode cX5_vote 31 = .ok (.new 50, 3) := by decide +kernel
theorem dX5_vote_34 : decode cX5_vote 34 = .ok (.dup, 1) := by decide +kernel
theorem dX5_vote_35 : decode cX5_vote 35 = .ok (.ldc 80, 2) := by decide +kernel
theorem dX5_vote_37 : decode cX5_vote 37 = .ok (.invokespecial 54, 3) := by decide +kernel
theorem dX5_vote_40 : decode cX5_vote 40 = .ok (.athrow, 1) := by decide +kernel
theorem dX5_vote_41 : decode cX5_vote 41 = .ok (.iload_n 3, 1) := by decide +kernel
theorem dX5_vote_42 : decode cX5_vote 42 = .ok (.iconst 1, 1) := by decide +kernel
theorem dX5_vote_43 : decode cX5_vote 43 = .ok (.if_icmp .lt 9, 3) := by decide +kernel
theorem dX5_vote_46 : decode cX5_vote 46 = .ok (.iload_n 3, 1) := by decide +kernel
theorem dX5_vote_47 : decode cX5_vote 47 = .ok (.bipush 30, 2) := by decide +kernel
theorem dX5_vote_49 : decode cX5_vote 49 = .ok (.if_icmp .le 13, 3) := by decide +kernel
theorem dX5_vote_52 : decode cX5_vote 52 = .ok (.new 57, 3) := by decide +kernel
theorem dX5_vote_55 : decode cX5_vote 55 = .ok (.dup, 1) := by decide +kernel
theorem dX5_vote_56 : decode cX5_vote 56 = .ok (.ldc 82, 2) := by decide +kernel
theorem dX5_vote_58 : decode cX5_vote 58 = .ok (.invokespecial 61, 3) := by decide +kernel
theorem dX5_vote_61 : decode cX5_vote 61 = .ok (.athrow, 1) := by decide +kernel
theorem dX5_vote_62 : decode cX5_vote 62 = .ok (.aload 4, 2) := by decide +kernel
theorem dX5_vote_64 : decode cX5_vote 64 = .ok (.iload_n 2, 1) := by decide +kernel
theorem dX5_vote_65 : decode cX5_vote 65 = .ok (.iload_n 3, 1) := by decide +kernel
theorem dX5_vote_66 : decode cX5_vote 66 = .ok (.invokevirtual 84, 3) := by decide +kernel
theorem dX5_vote_69 : decode cX5_vote 69 = .ok (.aload 4, 2) := by decide +kernel
theorem dX5_vote_71 : decode cX5_vote 71 = .ok (.invokevirtual 88, 3) := by decide +kernel
theorem dX5_vote_74 : decode cX5_vote 74 = .ok (.ireturn, 1) := by decide +kernel
theorem dX5_place_0 : decode cX5_place 0 = .ok (.aload_n 0, 1) := by decide +kernel
theorem dX5_place_1 : decode cX5_place 1 = .ok (.iload_n 1, 1) := by decide +kernel
theorem dX5_place_2 : decode cX5_place 2 = .ok (.invokevirtual 92, 3) := by decide +kernel
theorem dX5_place_5 : decode cX5_place 5 = .ok (.astore_n 3, 1) := by decide +kernel
theorem dX5_place_6 : decode cX5_place 6 = .ok (.aload_n 3, 1) := by decide +kernel
theorem dX5_place_7 : decode cX5_place 7 = .ok (.ifnonnull 13, 3) := by decide +kernel
theorem dX5_place_10 : decode cX5_place 10 = .ok (.new 50, 3) := by decide +kernel
theorem dX5_place_13 : decode cX5_place 13 = .ok (.dup, 1) := by decide +kernel
theorem dX5_place_14 : decode cX5_place 14 = .ok (.ldc 96, 2) := by decide +kernel
theorem dX5_place_16 : decode cX5_place 16 = .ok (.invokespecial 54, 3) := by decide +kernel
theorem dX5_place_19 : decode cX5_place 19 = .ok (.athrow, 1) := by decide +kernel
theorem dX5_place_20 : decode cX5_place 20 = .ok (.iload_n 2, 1) := by decide +kernel
theorem dX5_place_21 : decode cX5_place 21 = .ok (.invokestatic 98, 3) := by decide +kernel
theorem dX5_place_24 : decode cX5_place 24 = .ok (.ifCond .ne 13, 3) := by decide +kernel
theorem dX5_place_27 : decode cX5_place 27 = .ok (.new 50, 3) := by decide +kernel
theorem dX5_place_30 : decode cX5_place 30 = .ok (.dup, 1) := by decide +kernel
theorem dX5_place_31 : decode cX5_place 31 = .ok (.ldc 52, 2) := by decide +kernel
theorem dX5_place_33 : decode cX5_place 33 = .ok (.invokespecial 54, 3) := by decide +kernel
theorem dX5_place_36 : decode cX5_place 36 = .ok (.athrow, 1) := by decide +kernel
theorem dX5_place_37 : decode cX5_place 37 = .ok (.aload_n 3, 1) := by decide +kernel
theorem dX5_place_38 : decode cX5_place 38 = .ok (.getfield 102, 3) := by decide +kernel
theorem dX5_place_41 : decode cX5_place 41 = .ok (.ifCond .ne 13, 3) := by decide +kernel
theorem dX5_place_44 : decode cX5_place 44 = .ok (.new 66, 3) := by decide +kernel
theorem dX5_place_47 : decode cX5_place 47 = .ok (.dup, 1) := by decide +kernel
theorem dX5_place_48 : decode cX5_place 48 = .ok (.ldc 105, 2) := by decide +kernel
theorem dX5_place_50 : decode cX5_place 50 = .ok (.invokespecial 70, 3) := by decide +kernel
theorem dX5_place_53 : decode cX5_place 53 = .ok (.athrow, 1) := by decide +kernel
theorem dX5_place_54 : decode cX5_place 54 = .ok (.aload_n 3, 1) := by decide +kernel
theorem dX5_place_55 : decode cX5_place 55 = .ok (.getfield 107, 3) := by decide +kernel
theorem dX5_place_58 : decode cX5_place 58 = .ok (.istore 4, 2) := by decide +kernel
theorem dX5_place_60 : decode cX5_place 60 = .ok (.aload_n 3, 1) := by decide +kernel
theorem dX5_place_61 : decode cX5_place 61 = .ok (.iload_n 2, 1) := by decide +kernel
theorem dX5_place_62 : decode cX5_place 62 = .ok (.putfield 107, 3) := by decide +kernel
theorem dX5_place_65 : decode cX5_place 65 = .ok (.iload 4, 2) := by decide +kernel
theorem dX5_place_67 : decode cX5_place 67 = .ok (.ireturn, 1) := by decide +kernel
theorem dX5_ask_0 : decode cX5_ask 0 = .ok (.iload_n 1, 1) := by decide +kernel
theorem dX5_ask_1 : decode cX5_ask 1 = .ok (.invokestatic 98, 3) := by decide +kernel
theorem dX5_ask_4 : decode cX5_ask 4 = .ok (.ifCond .eq 10, 3) := by decide +kernel
theorem dX5_ask_7 : decode cX5_ask 7 = .ok (.iload_n 2, 1) := by decide +kernel
theorem dX5_ask_8 : decode cX5_ask 8 = .ok (.invokestatic 98, 3) := by decide +kernel
theorem dX5_ask_11 : decode cX5_ask 11 = .ok (.ifCond .ne 13, 3) := by decide +kernel
theorem dX5_ask_14 : decode cX5_ask 14 = .ok (.new 50, 3) := by decide +kernel
theorem dX5_ask_17 : decode cX5_ask 17 = .ok (.dup, 1) := by decide +kernel
theorem dX5_ask_18 : decode cX5_ask 18 = .ok (.ldc 52, 2) := by decide +kernel
theorem dX5_ask_20 : decode cX5_ask 20 = .ok (.invokespecial 54, 3) := by decide +kernel
theorem dX5_ask_23 : decode cX5_ask 23 = .ok (.athrow, 1) := by decide +kernel
theorem dX5_ask_24 : decode cX5_ask 24 = .ok (.iload_n 1, 1) := by decide +kernel
theorem dX5_ask_25 : decode cX5_ask 25 = .ok (.iload_n 2, 1) := by decide +kernel
theorem dX5_ask_26 : decode cX5_ask 26 = .ok (.if_icmp .ne 13, 3) := by decide +kernel
theorem dX5_ask_29 : decode cX5_ask 29 = .ok (.new 57, 3) := by decide +kernel
theorem dX5_ask_32 : decode cX5_ask 32 = .ok (.dup, 1) := by decide +kernel
theorem dX5_ask_33 : decode cX5_ask 33 = .ok (.ldc 110, 2) := by decide +kernel
theorem dX5_ask_35 : decode cX5_ask 35 = .ok (.invokespecial 61, 3) := by decide +kernel
theorem dX5_ask_38 : decode cX5_ask 38 = .ok (.athrow, 1) := by decide +kernel
theorem dX5_ask_39 : decode cX5_ask 39 = .ok (.aload_n 0, 1) := by decide +kernel
theorem dX5_ask_40 : decode cX5_ask 40 = .ok (.getfield 24, 3) := by decide +kernel
theorem dX5_ask_43 : decode cX5_ask 43 = .ok (.invokevirtual 112, 3) := by decide +kernel
theorem dX5_ask_46 : decode cX5_ask 46 = .ok (.bipush 60, 2) := by decide +kernel
theorem dX5_ask_48 : decode cX5_ask 48 = .ok (.if_icmp .lt 13, 3) := by decide +kernel
theorem dX5_ask_51 : decode cX5_ask 51 = .ok (.new 66, 3) := by decide +kernel
theorem dX5_ask_54 : decode cX5_ask 54 = .ok (.dup, 1) := by decide +kernel
theorem dX5_ask_55 : decode cX5_ask 55 = .ok (.ldc 115, 2) := by decide +kernel
theorem dX5_ask_57 : decode cX5_ask 57 = .ok (.invokespecial 70, 3) := by decide +kernel
theorem dX5_ask_60 : decode cX5_ask 60 = .ok (.athrow, 1) := by decide +kernel
theorem dX5_ask_61 : decode cX5_ask 61 = .ok (.aload_n 0, 1) := by decide +kernel
theorem dX5_ask_62 : decode cX5_ask 62 = .ok (.getfield 24, 3) := by decide +kernel
theorem dX5_ask_65 : decode cX5_ask 65 = .ok (.invokevirtual 112, 3) := by decide +kernel
theorem dX5_ask_68 : decode cX5_ask 68 = .ok (.istore_n 3, 1) := by decide +kernel
theorem dX5_ask_69 : decode cX5_ask 69 = .ok (.aload_n 0, 1) := by decide +kernel
theorem dX5_ask_70 : decode cX5_ask 70 = .ok (.getfield 24, 3) := by decide +kernel
theorem dX5_ask_73 : decode cX5_ask 73 = .ok (.new 117, 3) := by decide +kernel
theorem dX5_ask_76 : decode cX5_ask 76 = .ok (.dup, 1) := by decide +kernel
theorem dX5_ask_77 : decode cX5_ask 77 = .ok (.iload_n 3, 1) := by decide +kernel
theorem dX5_ask_78 : decode cX5_ask 78 = .ok (.iload_n 1, 1) := by decide +kernel
theorem dX5_ask_79 : decode cX5_ask 79 = .ok (.iload_n 2, 1) := by decide +kernel
theorem dX5_ask_80 : decode cX5_ask 80 = .ok (.invokespecial 119, 3) := by decide +kernel
theorem dX5_ask_83 : decode cX5_ask 83 = .ok (.invokevirtual 122, 3) := by decide +kernel
theorem dX5_ask_86 : decode cX5_ask 86 = .ok (.pop, 1) := by decide +kernel
theorem dX5_ask_87 : decode cX5_ask 87 = .ok (.iload_n 3, 1) := by decide +kernel
theorem dX5_ask_88 : decode cX5_ask 88 = .ok (.ireturn, 1) := by decide +kernel
theorem dX5_pass_0 : decode cX5_pass 0 = .ok (.iload_n 1, 1) := by decide +kernel
theorem dX5_pass_1 : decode cX5_pass 1 = .ok (.iconst 1, 1) := by decide +kernel
theorem dX5_pass_2 : decode cX5_pass 2 = .ok (.if_icmp .lt 9, 3) := by decide +kernel
theorem dX5_pass_5 : decode cX5_pass 5 = .ok (.iload_n 1, 1) := by decide +kernel
theorem dX5_pass_6 : decode cX5_pass 6 = .ok (.bipush 60, 2) := by decide +kernel
theorem dX5_pass_8 : decode cX5_pass 8 = .ok (.if_icmp .le 13, 3) := by decide +kernel
theorem dX5_pass_11 : decode cX5_pass 11 = .ok (.new 57, 3) := by decide +kernel
theorem dX5_pass_14 : decode cX5_pass 14 = .ok (.dup, 1) := by decide +kernel
theorem dX5_pass_15 : decode cX5_pass 15 = .ok (.ldc 126, 2) := by decide +kernel
theorem dX5_pass_17 : decode cX5_pass 17 = .ok (.invokespecial 61, 3) := by decide +kernel
theorem dX5_pass_20 : decode cX5_pass 20 = .ok (.athrow, 1) := by decide +kernel
theorem dX5_pass_21 : decode cX5_pass 21 = .ok (.aload_n 0, 1) := by decide +kernel
theorem dX5_pass_22 : decode cX5_pass 22 = .ok (.getfield 39, 3) := by decide +kernel
theorem dX5_pass_25 : decode cX5_pass 25 = .ok (.sipush 1000, 3) := by decide +kernel
theorem dX5_pass_28 : decode cX5_pass 28 = .ok (.iload_n 1, 1) := by decide +kernel
theorem dX5_pass_29 : decode cX5_pass 29 = .ok (.isub, 1) := by decide +kernel
theorem dX5_pass_30 : decode cX5_pass 30 = .ok (.if_icmp .le 13, 3) := by decide +kernel
theorem dX5_pass_33 : decode cX5_pass 33 = .ok (.new 66, 3) := by decide +kernel
theorem dX5_pass_36 : decode cX5_pass 36 = .ok (.dup, 1) := by decide +kernel
theorem dX5_pass_37 : decode cX5_pass 37 = .ok (.ldc 128, 2) := by decide +kernel
theorem dX5_pass_39 : decode cX5_pass 39 = .ok (.invokespecial 70, 3) := by decide +kernel
theorem dX5_pass_42 : decode cX5_pass 42 = .ok (.athrow, 1) := by decide +kernel
theorem dX5_pass_43 : decode cX5_pass 43 = .ok (.iconst 0, 1) := by decide +kernel
theorem dX5_pass_44 : decode cX5_pass 44 = .ok (.istore_n 2, 1) := by decide +kernel
theorem dX5_pass_45 : decode cX5_pass 45 = .ok (.iconst 0, 1) := by decide +kernel
theorem dX5_pass_46 : decode cX5_pass 46 = .ok (.istore_n 3, 1) := by decide +kernel
theorem dX5_pass_47 : decode cX5_pass 47 = .ok (.iload_n 3, 1) := by decide +kernel
theorem dX5_pass_48 : decode cX5_pass 48 = .ok (.iload_n 1, 1) := by decide +kernel
theorem dX5_pass_49 : decode cX5_pass 49 = .ok (.if_icmp .ge 20, 3) := by decide +kernel
theorem dX5_pass_52 : decode cX5_pass 52 = .ok (.aload_n 0, 1) := by decide +kernel
theorem dX5_pass_53 : decode cX5_pass 53 = .ok (.invokevirtual 130, 3) := by decide +kernel
theorem dX5_pass_56 : decode cX5_pass 56 = .ok (.iload_n 2, 1) := by decide +kernel
theorem dX5_pass_57 : decode cX5_pass 57 = .ok (.aload_n 0, 1) := by decide +kernel
theorem dX5_pass_58 : decode cX5_pass 58 = .ok (.invokevirtual 133, 3) := by decide +kernel
theorem dX5_pass_61 : decode cX5_pass 61 = .ok (.iadd, 1) := by decide +kernel
theorem dX5_pass_62 : decode cX5_pass 62 = .ok (.istore_n 2, 1) := by decide +kernel
theorem dX5_pass_63 : decode cX5_pass 63 = .ok (.iinc 3 1, 3) := by decide +kernel
theorem dX5_pass_66 : decode cX5_pass 66 = .ok (.goto (-19), 3) := by decide +kernel
theorem dX5_pass_69 : decode cX5_pass 69 = .ok (.aload_n 0, 1) := by decide +kernel
theorem dX5_pass_70 : decode cX5_pass 70 = .ok (.dup, 1) := by decide +kernel
theorem dX5_pass_71 : decode cX5_pass 71 = .ok (.getfield 39, 3) := by decide +kernel
theorem dX5_pass_74 : decode cX5_pass 74 = .ok (.iload_n 1, 1) := by decide +kernel
theorem dX5_pass_75 : decode cX5_pass 75 = .ok (.iadd, 1) := by decide +kernel
theorem dX5_pass_76 : decode cX5_pass 76 = .ok (.putfield 39, 3) := by decide +kernel
theorem dX5_pass_79 : decode cX5_pass 79 = .ok (.iload_n 2, 1) := by decide +kernel
theorem dX5_pass_80 : decode cX5_pass 80 = .ok (.ireturn, 1) := by decide +kernel
theorem dX5_night_0 : decode cX5_night 0 = .ok (.aload_n 0, 1) := by decide +kernel
theorem dX5_night_1 : decode cX5_night 1 = .ok (.invokevirtual 136, 3) := by decide +kernel
theorem dX5_night_4 : decode cX5_night 4 = .ok (.ifCond .ne 13, 3) := by decide +kernel
theorem dX5_night_7 : decode cX5_night 7 = .ok (.new 66, 3) := by decide +kernel
theorem dX5_night_10 : decode cX5_night 10 = .ok (.dup, 1) := by decide +kernel
theorem dX5_night_11 : decode cX5_night 11 = .ok (.ldc 140, 2) := by decide +kernel
theorem dX5_night_13 : decode cX5_night 13 = .ok (.invokespecial 70, 3) := by decide +kernel
theorem dX5_night_16 : decode cX5_night 16 = .ok (.athrow, 1) := by decide +kernel
theorem dX5_night_17 : decode cX5_night 17 = .ok (.aload_n 0, 1) := by decide +kernel
theorem dX5_night_18 : decode cX5_night 18 = .ok (.getfield 35, 3) := by decide +kernel
theorem dX5_night_21 : decode cX5_night 21 = .ok (.sipush 1000, 3) := by decide +kernel
theorem dX5_night_24 : decode cX5_night 24 = .ok (.if_icmp .lt 13, 3) := by decide +kernel
theorem dX5_night_27 : decode cX5_night 27 = .ok (.new 66, 3) := by decide +kernel
theorem dX5_night_30 : decode cX5_night 30 = .ok (.dup, 1) := by decide +kernel
theorem dX5_night_31 : decode cX5_night 31 = .ok (.ldc 142, 2) := by decide +kernel
theorem dX5_night_33 : decode cX5_night 33 = .ok (.invokespecial 70, 3) := by decide +kernel
theorem dX5_night_36 : decode cX5_night 36 = .ok (.athrow, 1) := by decide +kernel
theorem dX5_night_37 : decode cX5_night 37 = .ok (.aload_n 0, 1) := by decide +kernel
theorem dX5_night_38 : decode cX5_night 38 = .ok (.dup, 1) := by decide +kernel
theorem dX5_night_39 : decode cX5_night 39 = .ok (.getfield 35, 3) := by decide +kernel
theorem dX5_night_42 : decode cX5_night 42 = .ok (.iconst 1, 1) := by decide +kernel
theorem dX5_night_43 : decode cX5_night 43 = .ok (.iadd, 1) := by decide +kernel
theorem dX5_night_44 : decode cX5_night 44 = .ok (.putfield 35, 3) := by decide +kernel
theorem dX5_night_47 : decode cX5_night 47 = .ok (.aload_n 0, 1) := by decide +kernel
theorem dX5_night_48 : decode cX5_night 48 = .ok (.iconst 0, 1) := by decide +kernel
theorem dX5_night_49 : decode cX5_night 49 = .ok (.putfield 39, 3) := by decide +kernel
theorem dX5_night_52 : decode cX5_night 52 = .ok (.aload_n 0, 1) := by decide +kernel
theorem dX5_night_53 : decode cX5_night 53 = .ok (.getfield 31, 3) := by decide +kernel
theorem dX5_night_56 : decode cX5_night 56 = .ok (.aload_n 0, 1) := by decide +kernel
theorem dX5_night_57 : decode cX5_night 57 = .ok (.getfield 35, 3) := by decide +kernel
theorem dX5_night_60 : decode cX5_night 60 = .ok (.invokevirtual 144, 3) := by decide +kernel
theorem dX5_night_63 : decode cX5_night 63 = .ok (.ireturn, 1) := by decide +kernel
theorem dX5_complain_0 : decode cX5_complain 0 = .ok (.aload_n 0, 1) := by decide +kernel
theorem dX5_complain_1 : decode cX5_complain 1 = .ok (.iload_n 1, 1) := by decide +kernel
theorem dX5_complain_2 : decode cX5_complain 2 = .ok (.invokevirtual 148, 3) := by decide +kernel
theorem dX5_complain_5 : decode cX5_complain 5 = .ok (.astore_n 3, 1) := by decide +kernel
theorem dX5_complain_6 : decode cX5_complain 6 = .ok (.aload_n 3, 1) := by decide +kernel
theorem dX5_complain_7 : decode cX5_complain 7 = .ok (.ifnonnull 13, 3) := by decide +kernel
theorem dX5_complain_10 : decode cX5_complain 10 = .ok (.new 50, 3) := by decide +kernel
theorem dX5_complain_13 : decode cX5_complain 13 = .ok (.dup, 1) := by decide +kernel
theorem dX5_complain_14 : decode cX5_complain 14 = .ok (.ldc 152, 2) := by decide +kernel
theorem dX5_complain_16 : decode cX5_complain 16 = .ok (.invokespecial 54, 3) := by decide +kernel
theorem dX5_complain_19 : decode cX5_complain 19 = .ok (.athrow, 1) := by decide +kernel
theorem dX5_complain_20 : decode cX5_complain 20 = .ok (.aload_n 3, 1) := by decide +kernel
theorem dX5_complain_21 : decode cX5_complain 21 = .ok (.getfield 154, 3) := by decide +kernel
theorem dX5_complain_24 : decode cX5_complain 24 = .ok (.astore 4, 2) := by decide +kernel
theorem dX5_complain_26 : decode cX5_complain 26 = .ok (.aload_n 3, 1) := by decide +kernel
theorem dX5_complain_27 : decode cX5_complain 27 = .ok (.getfield 158, 3) := by decide +kernel
theorem dX5_complain_30 : decode cX5_complain 30 = .ok (.iconst 3, 1) := by decide +kernel
theorem dX5_complain_31 : decode cX5_complain 31 = .ok (.if_icmp .ne 8, 3) := by decide +kernel
theorem dX5_complain_34 : decode cX5_complain 34 = .ok (.aload 4, 2) := by decide +kernel
theorem dX5_complain_36 : decode cX5_complain 36 = .ok (.ifnonnull 13, 3) := by decide +kernel
theorem dX5_complain_39 : decode cX5_complain 39 = .ok (.new 66, 3) := by decide +kernel
theorem dX5_complain_42 : decode cX5_complain 42 = .ok (.dup, 1) := by decide +kernel
theorem dX5_complain_43 : decode cX5_complain 43 = .ok (.ldc 161, 2) := by decide +kernel
theorem dX5_complain_45 : decode cX5_complain 45 = .ok (.invokespecial 70, 3) := by decide +kernel
theorem dX5_complain_48 : decode cX5_complain 48 = .ok (.athrow, 1) := by decide +kernel
theorem dX5_complain_49 : decode cX5_complain 49 = .ok (.aload_n 3, 1) := by decide +kernel
theorem dX5_complain_50 : decode cX5_complain 50 = .ok (.getfield 163, 3) := by decide +kernel
theorem dX5_complain_53 : decode cX5_complain 53 = .ok (.ifCond .eq 13, 3) := by decide +kernel
theorem dX5_complain_56 : decode cX5_complain 56 = .ok (.new 66, 3) := by decide +kernel
theorem dX5_complain_59 : decode cX5_complain 59 = .ok (.dup, 1) := by decide +kernel
theorem dX5_complain_60 : decode cX5_complain 60 = .ok (.ldc 166, 2) := by decide +kernel
theorem dX5_complain_62 : decode cX5_complain 62 = .ok (.invokespecial 70, 3) := by decide +kernel
theorem dX5_complain_65 : decode cX5_complain 65 = .ok (.athrow, 1) := by decide +kernel
theorem dX5_complain_66 : decode cX5_complain 66 = .ok (.aload_n 3, 1) := by decide +kernel
theorem dX5_complain_67 : decode cX5_complain 67 = .ok (.iconst 1, 1) := by decide +kernel
theorem dX5_complain_68 : decode cX5_complain 68 = .ok (.putfield 163, 3) := by decide +kernel
theorem dX5_complain_71 : decode cX5_complain 71 = .ok (.aload 4, 2) := by decide +kernel
theorem dX5_complain_73 : decode cX5_complain 73 = .ok (.iload_n 2, 1) := by decide +kernel
theorem dX5_complain_74 : decode cX5_complain 74 = .ok (.ifCond .eq 18, 3) := by decide +kernel
theorem dX5_complain_77 : decode cX5_complain 77 = .ok (.bipush 100, 2) := by decide +kernel
theorem dX5_complain_79 : decode cX5_complain 79 = .ok (.aload 4, 2) := by decide +kernel
theorem dX5_complain_81 : decode cX5_complain 81 = .ok (.getfield 168, 3) := by decide +kernel
theorem dX5_complain_84 : decode cX5_complain 84 = .ok (.iconst 5, 1) := by decide +kernel
theorem dX5_complain_85 : decode cX5_complain 85 = .ok (.iadd, 1) := by decide +kernel
theorem dX5_complain_86 : decode cX5_complain 86 = .ok (.invokestatic 171, 3) := by decide +kernel
theorem dX5_complain_89 : decode cX5_complain 89 = .ok (.goto 15, 3) := by decide +kernel
theorem dX5_complain_92 : decode cX5_complain 92 = .ok (.iconst 0, 1) := by decide +kernel
theorem dX5_complain_93 : decode cX5_complain 93 = .ok (.aload 4, 2) := by decide +kernel
theorem dX5_complain_95 : decode cX5_complain 95 = .ok (.getfield 168, 3) := by decide +kernel
theorem dX5_complain_98 : decode cX5_complain 98 = .ok (.bipush 10, 2) := by decide +kernel
theorem dX5_complain_100 : decode cX5_complain 100 = .ok (.isub, 1) := by decide +kernel
theorem dX5_complain_101 : decode cX5_complain 101 = .ok (.invokestatic 177, 3) := by decide +kernel
theorem dX5_complain_104 : decode cX5_complain 104 = .ok (.putfield 168, 3) := by decide +kernel
theorem dX5_complain_107 : decode cX5_complain 107 = .ok (.aload 4, 2) := by decide +kernel
theorem dX5_complain_109 : decode cX5_complain 109 = .ok (.getfield 168, 3) := by decide +kernel
theorem dX5_complain_112 : decode cX5_complain 112 = .ok (.ireturn, 1) := by decide +kernel
theorem dX5_day_0 : decode cX5_day 0 = .ok (.aload_n 0, 1) := by decide +kernel
theorem dX5_day_1 : decode cX5_day 1 = .ok (.getfield 35, 3) := by decide +kernel
theorem dX5_day_4 : decode cX5_day 4 = .ok (.ireturn, 1) := by decide +kernel
theorem dX5_minute_0 : decode cX5_minute 0 = .ok (.aload_n 0, 1) := by decide +kernel
theorem dX5_minute_1 : decode cX5_minute 1 = .ok (.getfield 39, 3) := by decide +kernel
theorem dX5_minute_4 : decode cX5_minute 4 = .ok (.ireturn, 1) := by decide +kernel
theorem dX5_purse_0 : decode cX5_purse 0 = .ok (.aload_n 0, 1) := by decide +kernel
theorem dX5_purse_1 : decode cX5_purse 1 = .ok (.iload_n 1, 1) := by decide +kernel
theorem dX5_purse_2 : decode cX5_purse 2 = .ok (.invokevirtual 46, 3) := by decide +kernel
theorem dX5_purse_5 : decode cX5_purse 5 = .ok (.astore_n 2, 1) := by decide +kernel
theorem dX5_purse_6 : decode cX5_purse 6 = .ok (.aload_n 2, 1) := by decide +kernel
theorem dX5_purse_7 : decode cX5_purse 7 = .ok (.ifnonnull 13, 3) := by decide +kernel
theorem dX5_purse_10 : decode cX5_purse 10 = .ok (.new 50, 3) := by decide +kernel
theorem dX5_purse_13 : decode cX5_purse 13 = .ok (.dup, 1) := by decide +kernel
theorem dX5_purse_14 : decode cX5_purse 14 = .ok (.ldc 52, 2) := by decide +kernel
theorem dX5_purse_16 : decode cX5_purse 16 = .ok (.invokespecial 54, 3) := by decide +kernel
theorem dX5_purse_19 : decode cX5_purse 19 = .ok (.athrow, 1) := by decide +kernel
theorem dX5_purse_20 : decode cX5_purse 20 = .ok (.aload_n 2, 1) := by decide +kernel
theorem dX5_purse_21 : decode cX5_purse 21 = .ok (.getfield 62, 3) := by decide +kernel
theorem dX5_purse_24 : decode cX5_purse 24 = .ok (.ireturn, 1) := by decide +kernel
theorem dX5_walks_0 : decode cX5_walks 0 = .ok (.aload_n 0, 1) := by decide +kernel
theorem dX5_walks_1 : decode cX5_walks 1 = .ok (.getfield 24, 3) := by decide +kernel
theorem dX5_walks_4 : decode cX5_walks 4 = .ok (.invokevirtual 112, 3) := by decide +kernel
theorem dX5_walks_7 : decode cX5_walks 7 = .ok (.ireturn, 1) := by decide +kernel
theorem dX5_state_0 : decode cX5_state 0 = .ok (.aload_n 0, 1) := by decide +kernel
theorem dX5_state_1 : decode cX5_state 1 = .ok (.iload_n 1, 1) := by decide +kernel
theorem dX5_state_2 : decode cX5_state 2 = .ok (.invokevirtual 148, 3) := by decide +kernel
theorem dX5_state_5 : decode cX5_state 5 = .ok (.astore_n 2, 1) := by decide +kernel
theorem dX5_state_6 : decode cX5_state 6 = .ok (.aload_n 2, 1) := by decide +kernel
theorem dX5_state_7 : decode cX5_state 7 = .ok (.ifnonnull 13, 3) := by decide +kernel
theorem dX5_state_10 : decode cX5_state 10 = .ok (.new 50, 3) := by decide +kernel
theorem dX5_state_13 : decode cX5_state 13 = .ok (.dup, 1) := by decide +kernel
theorem dX5_state_14 : decode cX5_state 14 = .ok (.ldc 152, 2) := by decide +kernel
theorem dX5_state_16 : decode cX5_state 16 = .ok (.invokespecial 54, 3) := by decide +kernel
theorem dX5_state_19 : decode cX5_state 19 = .ok (.athrow, 1) := by decide +kernel
theorem dX5_state_20 : decode cX5_state 20 = .ok (.aload_n 2, 1) := by decide +kernel
theorem dX5_state_21 : decode cX5_state 21 = .ok (.getfield 158, 3) := by decide +kernel
theorem dX5_state_24 : decode cX5_state 24 = .ok (.ireturn, 1) := by decide +kernel
theorem dX5_escortOf_0 : decode cX5_escortOf 0 = .ok (.aload_n 0, 1) := by decide +kernel
theorem dX5_escortOf_1 : decode cX5_escortOf 1 = .ok (.iload_n 1, 1) := by decide +kernel
theorem dX5_escortOf_2 : decode cX5_escortOf 2 = .ok (.invokevirtual 148, 3) := by decide +kernel
theorem dX5_escortOf_5 : decode cX5_escortOf 5 = .ok (.astore_n 2, 1) := by decide +kernel
theorem dX5_escortOf_6 : decode cX5_escortOf 6 = .ok (.aload_n 2, 1) := by decide +kernel
theorem dX5_escortOf_7 : decode cX5_escortOf 7 = .ok (.ifnonnull 13, 3) := by decide +kernel
theorem dX5_escortOf_10 : decode cX5_escortOf 10 = .ok (.new 50, 3) := by decide +kernel
theorem dX5_escortOf_13 : decode cX5_escortOf 13 = .ok (.dup, 1) := by decide +kernel
theorem dX5_escortOf_14 : decode cX5_escortOf 14 = .ok (.ldc 152, 2) := by decide +kernel
theorem dX5_escortOf_16 : decode cX5_escortOf 16 = .ok (.invokespecial 54, 3) := by decide +kernel
theorem dX5_escortOf_19 : decode cX5_escortOf 19 = .ok (.athrow, 1) := by decide +kernel
theorem dX5_escortOf_20 : decode cX5_escortOf 20 = .ok (.aload_n 2, 1) := by decide +kernel
theorem dX5_escortOf_21 : decode cX5_escortOf 21 = .ok (.getfield 154, 3) := by decide +kernel
theorem dX5_escortOf_24 : decode cX5_escortOf 24 = .ok (.astore_n 3, 1) := by decide +kernel
theorem dX5_escortOf_25 : decode cX5_escortOf 25 = .ok (.aload_n 3, 1) := by decide +kernel
theorem dX5_escortOf_26 : decode cX5_escortOf 26 = .ok (.ifnonnull 7, 3) := by decide +kernel
theorem dX5_escortOf_29 : decode cX5_escortOf 29 = .ok (.iconst (-1), 1) := by decide +kernel
theorem dX5_escortOf_30 : decode cX5_escortOf 30 = .ok (.goto 7, 3) := by decide +kernel
theorem dX5_escortOf_33 : decode cX5_escortOf 33 = .ok (.aload_n 3, 1) := by decide +kernel
theorem dX5_escortOf_34 : decode cX5_escortOf 34 = .ok (.getfield 180, 3) := by decide +kernel
theorem dX5_escortOf_37 : decode cX5_escortOf 37 = .ok (.ireturn, 1) := by decide +kernel
theorem dX5_dark_0 : decode cX5_dark 0 = .ok (.aload_n 0, 1) := by decide +kernel
theorem dX5_dark_1 : decode cX5_dark 1 = .ok (.iload_n 1, 1) := by decide +kernel
theorem dX5_dark_2 : decode cX5_dark 2 = .ok (.invokevirtual 148, 3) := by decide +kernel
theorem dX5_dark_5 : decode cX5_dark 5 = .ok (.astore_n 2, 1) := by decide +kernel
theorem dX5_dark_6 : decode cX5_dark 6 = .ok (.aload_n 2, 1) := by decide +kernel
theorem dX5_dark_7 : decode cX5_dark 7 = .ok (.ifnonnull 13, 3) := by decide +kernel
theorem dX5_dark_10 : decode cX5_dark 10 = .ok (.new 50, 3) := by decide +kernel
theorem dX5_dark_13 : decode cX5_dark 13 = .ok (.dup, 1) := by decide +kernel
theorem dX5_dark_14 : decode cX5_dark 14 = .ok (.ldc 152, 2) := by decide +kernel
theorem dX5_dark_16 : decode cX5_dark 16 = .ok (.invokespecial 54, 3) := by decide +kernel
theorem dX5_dark_19 : decode cX5_dark 19 = .ok (.athrow, 1) := by decide +kernel
theorem dX5_dark_20 : decode cX5_dark 20 = .ok (.aload_n 2, 1) := by decide +kernel
theorem dX5_dark_21 : decode cX5_dark 21 = .ok (.getfield 183, 3) := by decide +kernel
theorem dX5_dark_24 : decode cX5_dark 24 = .ok (.ireturn, 1) := by decide +kernel
theorem dX5_streetOf_0 : decode cX5_streetOf 0 = .ok (.aload_n 0, 1) := by decide +kernel
theorem dX5_streetOf_1 : decode cX5_streetOf 1 = .ok (.iload_n 1, 1) := by decide +kernel
theorem dX5_streetOf_2 : decode cX5_streetOf 2 = .ok (.invokevirtual 92, 3) := by decide +kernel
theorem dX5_streetOf_5 : decode cX5_streetOf 5 = .ok (.astore_n 2, 1) := by decide +kernel
theorem dX5_streetOf_6 : decode cX5_streetOf 6 = .ok (.aload_n 2, 1) := by decide +kernel
theorem dX5_streetOf_7 : decode cX5_streetOf 7 = .ok (.ifnonnull 13, 3) := by decide +kernel
theorem dX5_streetOf_10 : decode cX5_streetOf 10 = .ok (.new 50, 3) := by decide +kernel
theorem dX5_streetOf_13 : decode cX5_streetOf 13 = .ok (.dup, 1) := by decide +kernel
theorem dX5_streetOf_14 : decode cX5_streetOf 14 = .ok (.ldc 96, 2) := by decide +kernel
theorem dX5_streetOf_16 : decode cX5_streetOf 16 = .ok (.invokespecial 54, 3) := by decide +kernel
theorem dX5_streetOf_19 : decode cX5_streetOf 19 = .ok (.athrow, 1) := by decide +kernel
theorem dX5_streetOf_20 : decode cX5_streetOf 20 = .ok (.aload_n 2, 1) := by decide +kernel
theorem dX5_streetOf_21 : decode cX5_streetOf 21 = .ok (.getfield 107, 3) := by decide +kernel
theorem dX5_streetOf_24 : decode cX5_streetOf 24 = .ok (.ireturn, 1) := by decide +kernel
theorem dX5_rank_0 : decode cX5_rank 0 = .ok (.aload_n 0, 1) := by decide +kernel
theorem dX5_rank_1 : decode cX5_rank 1 = .ok (.iload_n 1, 1) := by decide +kernel
theorem dX5_rank_2 : decode cX5_rank 2 = .ok (.invokevirtual 92, 3) := by decide +kernel
theorem dX5_rank_5 : decode cX5_rank 5 = .ok (.astore_n 2, 1) := by decide +kernel
theorem dX5_rank_6 : decode cX5_rank 6 = .ok (.aload_n 2, 1) := by decide +kernel
theorem dX5_rank_7 : decode cX5_rank 7 = .ok (.ifnonnull 13, 3) := by decide +kernel
theorem dX5_rank_10 : decode cX5_rank 10 = .ok (.new 50, 3) := by decide +kernel
theorem dX5_rank_13 : decode cX5_rank 13 = .ok (.dup, 1) := by decide +kernel
theorem dX5_rank_14 : decode cX5_rank 14 = .ok (.ldc 96, 2) := by decide +kernel
theorem dX5_rank_16 : decode cX5_rank 16 = .ok (.invokespecial 54, 3) := by decide +kernel
theorem dX5_rank_19 : decode cX5_rank 19 = .ok (.athrow, 1) := by decide +kernel
theorem dX5_rank_20 : decode cX5_rank 20 = .ok (.aload_n 2, 1) := by decide +kernel
theorem dX5_rank_21 : decode cX5_rank 21 = .ok (.getfield 168, 3) := by decide +kernel
theorem dX5_rank_24 : decode cX5_rank 24 = .ok (.ireturn, 1) := by decide +kernel
theorem dX5_way_0 : decode cX5_way 0 = .ok (.iload_n 1, 1) := by decide +kernel
theorem dX5_way_1 : decode cX5_way 1 = .ok (.invokestatic 98, 3) := by decide +kernel
theorem dX5_way_4 : decode cX5_way 4 = .ok (.ifCond .eq 10, 3) := by decide +kernel
theorem dX5_way_7 : decode cX5_way 7 = .ok (.iload_n 2, 1) := by decide +kernel
theorem dX5_way_8 : decode cX5_way 8 = .ok (.invokestatic 98, 3) := by decide +kernel
theorem dX5_way_11 : decode cX5_way 11 = .ok (.ifCond .ne 13, 3) := by decide +kernel
theorem dX5_way_14 : decode cX5_way 14 = .ok (.new 50, 3) := by decide +kernel
theorem dX5_way_17 : decode cX5_way 17 = .ok (.dup, 1) := by decide +kernel
theorem dX5_way_18 : decode cX5_way 18 = .ok (.ldc 52, 2) := by decide +kernel
theorem dX5_way_20 : decode cX5_way 20 = .ok (.invokespecial 54, 3) := by decide +kernel
theorem dX5_way_23 : decode cX5_way 23 = .ok (.athrow, 1) := by decide +kernel
theorem dX5_way_24 : decode cX5_way 24 = .ok (.iload_n 1, 1) := by decide +kernel
theorem dX5_way_25 : decode cX5_way 25 = .ok (.iload_n 2, 1) := by decide +kernel
theorem dX5_way_26 : decode cX5_way 26 = .ok (.invokestatic 186, 3) := by decide +kernel
theorem dX5_way_29 : decode cX5_way 29 = .ok (.ireturn, 1) := by decide +kernel
theorem dX5_pictures_0 : decode cX5_pictures 0 = .ok (.aload_n 0, 1) := by decide +kernel
theorem dX5_pictures_1 : decode cX5_pictures 1 = .ok (.getfield 31, 3) := by decide +kernel
theorem dX5_pictures_4 : decode cX5_pictures 4 = .ok (.invokevirtual 189, 3) := by decide +kernel
theorem dX5_pictures_7 : decode cX5_pictures 7 = .ok (.ireturn, 1) := by decide +kernel
theorem dX5_shows_0 : decode cX5_shows 0 = .ok (.iload_n 1, 1) := by decide +kernel
theorem dX5_shows_1 : decode cX5_shows 1 = .ok (.invokestatic 98, 3) := by decide +kernel
theorem dX5_shows_4 : decode cX5_shows 4 = .ok (.ifCond .ne 13, 3) := by decide +kernel
theorem dX5_shows_7 : decode cX5_shows 7 = .ok (.new 50, 3) := by decide +kernel
theorem dX5_shows_10 : decode cX5_shows 10 = .ok (.dup, 1) := by decide +kernel
theorem dX5_shows_11 : decode cX5_shows 11 = .ok (.ldc 52, 2) := by decide +kernel
theorem dX5_shows_13 : decode cX5_shows 13 = .ok (.invokespecial 54, 3) := by decide +kernel
theorem dX5_shows_16 : decode cX5_shows 16 = .ok (.athrow, 1) := by decide +kernel
theorem dX5_shows_17 : decode cX5_shows 17 = .ok (.aload_n 0, 1) := by decide +kernel
theorem dX5_shows_18 : decode cX5_shows 18 = .ok (.iload_n 2, 1) := by decide +kernel
theorem dX5_shows_19 : decode cX5_shows 19 = .ok (.invokevirtual 148, 3) := by decide +kernel
theorem dX5_shows_22 : decode cX5_shows 22 = .ok (.ifnonnull 13, 3) := by decide +kernel
theorem dX5_shows_25 : decode cX5_shows 25 = .ok (.new 50, 3) := by decide +kernel
theorem dX5_shows_28 : decode cX5_shows 28 = .ok (.dup, 1) := by decide +kernel
theorem dX5_shows_29 : decode cX5_shows 29 = .ok (.ldc 152, 2) := by decide +kernel
theorem dX5_shows_31 : decode cX5_shows 31 = .ok (.invokespecial 54, 3) := by decide +kernel
theorem dX5_shows_34 : decode cX5_shows 34 = .ok (.athrow, 1) := by decide +kernel
theorem dX5_shows_35 : decode cX5_shows 35 = .ok (.aload_n 0, 1) := by decide +kernel
theorem dX5_shows_36 : decode cX5_shows 36 = .ok (.getfield 31, 3) := by decide +kernel
theorem dX5_shows_39 : decode cX5_shows 39 = .ok (.iload_n 1, 1) := by decide +kernel
theorem dX5_shows_40 : decode cX5_shows 40 = .ok (.iload_n 2, 1) := by decide +kernel
theorem dX5_shows_41 : decode cX5_shows 41 = .ok (.iload_n 3, 1) := by decide +kernel
theorem dX5_shows_42 : decode cX5_shows 42 = .ok (.invokevirtual 192, 3) := by decide +kernel
theorem dX5_shows_45 : decode cX5_shows 45 = .ok (.ireturn, 1) := by decide +kernel
theorem dX5_showsByPapers_0 : decode cX5_showsByPapers 0 = .ok (.iload_n 1, 1) := by decide +kernel
theorem dX5_showsByPapers_1 : decode cX5_showsByPapers 1 = .ok (.invokestatic 98, 3) := by decide +kernel
theorem dX5_showsByPapers_4 : decode cX5_showsByPapers 4 = .ok (.ifCond .ne 13, 3) := by decide +kernel
theorem dX5_showsByPapers_7 : decode cX5_showsByPapers 7 = .ok (.new 50, 3) := by decide +kernel
theorem dX5_showsByPapers_10 : decode cX5_showsByPapers 10 = .ok (.dup, 1) := by decide +kernel
theorem dX5_showsByPapers_11 : decode cX5_showsByPapers 11 = .ok (.ldc 52, 2) := by decide +kernel
theorem dX5_showsByPapers_13 : decode cX5_showsByPapers 13 = .ok (.invokespecial 54, 3) := by decide +kernel
theorem dX5_showsByPapers_16 : decode cX5_showsByPapers 16 = .ok (.athrow, 1) := by decide +kernel
theorem dX5_showsByPapers_17 : decode cX5_showsByPapers 17 = .ok (.aload_n 0, 1) := by decide +kernel
theorem dX5_showsByPapers_18 : decode cX5_showsByPapers 18 = .ok (.iload_n 2, 1) := by decide +kernel
theorem dX5_showsByPapers_19 : decode cX5_showsByPapers 19 = .ok (.invokevirtual 148, 3) := by decide +kernel
theorem dX5_showsByPapers_22 : decode cX5_showsByPapers 22 = .ok (.ifnonnull 13, 3) := by decide +kernel
theorem dX5_showsByPapers_25 : decode cX5_showsByPapers 25 = .ok (.new 50, 3) := by decide +kernel
theorem dX5_showsByPapers_28 : decode cX5_showsByPapers 28 = .ok (.dup, 1) := by decide +kernel
theorem dX5_showsByPapers_29 : decode cX5_showsByPapers 29 = .ok (.ldc 152, 2) := by decide +kernel
theorem dX5_showsByPapers_31 : decode cX5_showsByPapers 31 = .ok (.invokespecial 54, 3) := by decide +kernel
theorem dX5_showsByPapers_34 : decode cX5_showsByPapers 34 = .ok (.athrow, 1) := by decide +kernel
theorem dX5_showsByPapers_35 : decode cX5_showsByPapers 35 = .ok (.aload_n 0, 1) := by decide +kernel
theorem dX5_showsByPapers_36 : decode cX5_showsByPapers 36 = .ok (.getfield 31, 3) := by decide +kernel
theorem dX5_showsByPapers_39 : decode cX5_showsByPapers 39 = .ok (.iload_n 1, 1) := by decide +kernel
theorem dX5_showsByPapers_40 : decode cX5_showsByPapers 40 = .ok (.iload_n 2, 1) := by decide +kernel
theorem dX5_showsByPapers_41 : decode cX5_showsByPapers 41 = .ok (.iload_n 3, 1) := by decide +kernel
theorem dX5_showsByPapers_42 : decode cX5_showsByPapers 42 = .ok (.aload_n 0, 1) := by decide +kernel
theorem dX5_showsByPapers_43 : decode cX5_showsByPapers 43 = .ok (.getfield 35, 3) := by decide +kernel
theorem dX5_showsByPapers_46 : decode cX5_showsByPapers 46 = .ok (.invokevirtual 196, 3) := by decide +kernel
theorem dX5_showsByPapers_49 : decode cX5_showsByPapers 49 = .ok (.ireturn, 1) := by decide +kernel
theorem dX5_taken_0 : decode cX5_taken 0 = .ok (.aload_n 0, 1) := by decide +kernel
theorem dX5_taken_1 : decode cX5_taken 1 = .ok (.getfield 31, 3) := by decide +kernel
theorem dX5_taken_4 : decode cX5_taken 4 = .ok (.invokevirtual 200, 3) := by decide +kernel
theorem dX5_taken_7 : decode cX5_taken 7 = .ok (.ireturn, 1) := by decide +kernel
theorem dX5_isStreet_0 : decode cX5_isStreet 0 = .ok (.iload_n 0, 1) := by decide +kernel
theorem dX5_isStreet_1 : decode cX5_isStreet 1 = .ok (.ifCond .lt 13, 3) := by decide +kernel
theorem dX5_isStreet_4 : decode cX5_isStreet 4 = .ok (.iload_n 0, 1) := by decide +kernel
theorem dX5_isStreet_5 : decode cX5_isStreet 5 = .ok (.bipush 8, 2) := by decide +kernel
theorem dX5_isStreet_7 : decode cX5_isStreet 7 = .ok (.if_icmp .ge 7, 3) := by decide +kernel
theorem dX5_isStreet_10 : decode cX5_isStreet 10 = .ok (.iconst 1, 1) := by decide +kernel
theorem dX5_isStreet_11 : decode cX5_isStreet 11 = .ok (.goto 4, 3) := by decide +kernel
theorem dX5_isStreet_14 : decode cX5_isStreet 14 = .ok (.iconst 0, 1) := by decide +kernel
theorem dX5_isStreet_15 : decode cX5_isStreet 15 = .ok (.ireturn, 1) := by decide +kernel
theorem dX5_findStreet_0 : decode cX5_findStreet 0 = .ok (.iload_n 1, 1) := by decide +kernel
theorem dX5_findStreet_1 : decode cX5_findStreet 1 = .ok (.ifCond .lt 12, 3) := by decide +kernel
theorem dX5_findStreet_4 : decode cX5_findStreet 4 = .ok (.iload_n 1, 1) := by decide +kernel
theorem dX5_findStreet_5 : decode cX5_findStreet 5 = .ok (.aload_n 0, 1) := by decide +kernel
theorem dX5_findStreet_6 : decode cX5_findStreet 6 = .ok (.getfield 11, 3) := by decide +kernel
theorem dX5_findStreet_9 : decode cX5_findStreet 9 = .ok (.arraylength, 1) := by decide +kernel
theorem dX5_findStreet_10 : decode cX5_findStreet 10 = .ok (.if_icmp .lt 7, 3) := by decide +kernel
theorem dX5_findStreet_13 : decode cX5_findStreet 13 = .ok (.aconst_null, 1) := by decide +kernel
theorem dX5_findStreet_14 : decode cX5_findStreet 14 = .ok (.goto 9, 3) := by decide +kernel
theorem dX5_findStreet_17 : decode cX5_findStreet 17 = .ok (.aload_n 0, 1) := by decide +kernel
theorem dX5_findStreet_18 : decode cX5_findStreet 18 = .ok (.getfield 11, 3) := by decide +kernel
theorem dX5_findStreet_21 : decode cX5_findStreet 21 = .ok (.iload_n 1, 1) := by decide +kernel
theorem dX5_findStreet_22 : decode cX5_findStreet 22 = .ok (.aaload, 1) := by decide +kernel
theorem dX5_findStreet_23 : decode cX5_findStreet 23 = .ok (.areturn, 1) := by decide +kernel
theorem dX5_findEscort_0 : decode cX5_findEscort 0 = .ok (.iload_n 1, 1) := by decide +kernel
theorem dX5_findEscort_1 : decode cX5_findEscort 1 = .ok (.ifCond .lt 12, 3) := by decide +kernel
theorem dX5_findEscort_4 : decode cX5_findEscort 4 = .ok (.iload_n 1, 1) := by decide +kernel
theorem dX5_findEscort_5 : decode cX5_findEscort 5 = .ok (.aload_n 0, 1) := by decide +kernel
theorem dX5_findEscort_6 : decode cX5_findEscort 6 = .ok (.getfield 17, 3) := by decide +kernel
theorem dX5_findEscort_9 : decode cX5_findEscort 9 = .ok (.arraylength, 1) := by decide +kernel
theorem dX5_findEscort_10 : decode cX5_findEscort 10 = .ok (.if_icmp .lt 7, 3) := by decide +kernel
theorem dX5_findEscort_13 : decode cX5_findEscort 13 = .ok (.aconst_null, 1) := by decide +kernel
theorem dX5_findEscort_14 : decode cX5_findEscort 14 = .ok (.goto 9, 3) := by decide +kernel
theorem dX5_findEscort_17 : decode cX5_findEscort 17 = .ok (.aload_n 0, 1) := by decide +kernel
theorem dX5_findEscort_18 : decode cX5_findEscort 18 = .ok (.getfield 17, 3) := by decide +kernel
theorem dX5_findEscort_21 : decode cX5_findEscort 21 = .ok (.iload_n 1, 1) := by decide +kernel
theorem dX5_findEscort_22 : decode cX5_findEscort 22 = .ok (.aaload, 1) := by decide +kernel
theorem dX5_findEscort_23 : decode cX5_findEscort 23 = .ok (.areturn, 1) := by decide +kernel
theorem dX5_findWalk_0 : decode cX5_findWalk 0 = .ok (.iload_n 1, 1) := by decide +kernel
theorem dX5_findWalk_1 : decode cX5_findWalk 1 = .ok (.ifCond .lt 14, 3) := by decide +kernel
theorem dX5_findWalk_4 : decode cX5_findWalk 4 = .ok (.iload_n 1, 1) := by decide +kernel
theorem dX5_findWalk_5 : decode cX5_findWalk 5 = .ok (.aload_n 0, 1) := by decide +kernel
theorem dX5_findWalk_6 : decode cX5_findWalk 6 = .ok (.getfield 24, 3) := by decide +kernel
theorem dX5_findWalk_9 : decode cX5_findWalk 9 = .ok (.invokevirtual 112, 3) := by decide +kernel
theorem dX5_findWalk_12 : decode cX5_findWalk 12 = .ok (.if_icmp .lt 7, 3) := by decide +kernel
theorem dX5_findWalk_15 : decode cX5_findWalk 15 = .ok (.aconst_null, 1) := by decide +kernel
theorem dX5_findWalk_16 : decode cX5_findWalk 16 = .ok (.goto 14, 3) := by decide +kernel
theorem dX5_findWalk_19 : decode cX5_findWalk 19 = .ok (.aload_n 0, 1) := by decide +kernel
theorem dX5_findWalk_20 : decode cX5_findWalk 20 = .ok (.getfield 24, 3) := by decide +kernel
theorem dX5_findWalk_23 : decode cX5_findWalk 23 = .ok (.iload_n 1, 1) := by decide +kernel
theorem dX5_findWalk_24 : decode cX5_findWalk 24 = .ok (.invokevirtual 203, 3) := by decide +kernel
theorem dX5_findWalk_27 : decode cX5_findWalk 27 = .ok (.checkcast 117, 3) := by decide +kernel
theorem dX5_findWalk_30 : decode cX5_findWalk 30 = .ok (.areturn, 1) := by decide +kernel
theorem dX5_stepsUp_0 : decode cX5_stepsUp 0 = .ok (.iload_n 1, 1) := by decide +kernel
theorem dX5_stepsUp_1 : decode cX5_stepsUp 1 = .ok (.iload_n 0, 1) := by decide +kernel
theorem dX5_stepsUp_2 : decode cX5_stepsUp 2 = .ok (.isub, 1) := by decide +kernel
theorem dX5_stepsUp_3 : decode cX5_stepsUp 3 = .ok (.bipush 8, 2) := by decide +kernel
theorem dX5_stepsUp_5 : decode cX5_stepsUp 5 = .ok (.invokestatic 207, 3) := by decide +kernel
theorem dX5_stepsUp_8 : decode cX5_stepsUp 8 = .ok (.ireturn, 1) := by decide +kernel
theorem dX5_distance_0 : decode cX5_distance 0 = .ok (.iload_n 0, 1) := by decide +kernel
theorem dX5_distance_1 : decode cX5_distance 1 = .ok (.iload_n 1, 1) := by decide +kernel
theorem dX5_distance_2 : decode cX5_distance 2 = .ok (.invokestatic 210, 3) := by decide +kernel
theorem dX5_distance_5 : decode cX5_distance 5 = .ok (.istore_n 2, 1) := by decide +kernel
theorem dX5_distance_6 : decode cX5_distance 6 = .ok (.iload_n 2, 1) := by decide +kernel
theorem dX5_distance_7 : decode cX5_distance 7 = .ok (.bipush 8, 2) := by decide +kernel
theorem dX5_distance_9 : decode cX5_distance 9 = .ok (.iload_n 2, 1) := by decide +kernel
theorem dX5_distance_10 : decode cX5_distance 10 = .ok (.isub, 1) := by decide +kernel
theorem dX5_distance_11 : decode cX5_distance 11 = .ok (.invokestatic 171, 3) := by decide +kernel
theorem dX5_distance_14 : decode cX5_distance 14 = .ok (.ireturn, 1) := by decide +kernel
theorem dX5_oneStepOn_0 : decode cX5_oneStepOn 0 = .ok (.iload_n 0, 1) := by decide +kernel
theorem dX5_oneStepOn_1 : decode cX5_oneStepOn 1 = .ok (.iload_n 1, 1) := by decide +kernel
theorem dX5_oneStepOn_2 : decode cX5_oneStepOn 2 = .ok (.invokestatic 210, 3) := by decide +kernel
theorem dX5_oneStepOn_5 : decode cX5_oneStepOn 5 = .ok (.istore_n 2, 1) := by decide +kernel
theorem dX5_oneStepOn_6 : decode cX5_oneStepOn 6 = .ok (.iload_n 2, 1) := by decide +kernel
theorem dX5_oneStepOn_7 : decode cX5_oneStepOn 7 = .ok (.ifCond .ne 5, 3) := by decide +kernel
theorem dX5_oneStepOn_10 : decode cX5_oneStepOn 10 = .ok (.iload_n 0, 1) := by decide +kernel
theorem dX5_oneStepOn_11 : decode cX5_oneStepOn 11 = .ok (.ireturn, 1) := by decide +kernel
theorem dX5_oneStepOn_12 : decode cX5_oneStepOn 12 = .ok (.iload_n 2, 1) := by decide +kernel
theorem dX5_oneStepOn_13 : decode cX5_oneStepOn 13 = .ok (.bipush 8, 2) := by decide +kernel
theorem dX5_oneStepOn_15 : decode cX5_oneStepOn 15 = .ok (.iload_n 2, 1) := by decide +kernel
theorem dX5_oneStepOn_16 : decode cX5_oneStepOn 16 = .ok (.isub, 1) := by decide +kernel
theorem dX5_oneStepOn_17 : decode cX5_oneStepOn 17 = .ok (.if_icmp .gt 9, 3) := by decide +kernel
theorem dX5_oneStepOn_20 : decode cX5_oneStepOn 20 = .ok (.iload_n 0, 1) := by decide +kernel
theorem dX5_oneStepOn_21 : decode cX5_oneStepOn 21 = .ok (.iconst 1, 1) := by decide +kernel
theorem dX5_oneStepOn_22 : decode cX5_oneStepOn 22 = .ok (.iadd, 1) := by decide +kernel
theorem dX5_oneStepOn_23 : decode cX5_oneStepOn 23 = .ok (.goto 6, 3) := by decide +kernel
theorem dX5_oneStepOn_26 : decode cX5_oneStepOn 26 = .ok (.iload_n 0, 1) := by decide +kernel
theorem dX5_oneStepOn_27 : decode cX5_oneStepOn 27 = .ok (.iconst 1, 1) := by decide +kernel
theorem dX5_oneStepOn_28 : decode cX5_oneStepOn 28 = .ok (.isub, 1) := by decide +kernel
theorem dX5_oneStepOn_29 : decode cX5_oneStepOn 29 = .ok (.bipush 8, 2) := by decide +kernel
theorem dX5_oneStepOn_31 : decode cX5_oneStepOn 31 = .ok (.invokestatic 207, 3) := by decide +kernel
theorem dX5_oneStepOn_34 : decode cX5_oneStepOn 34 = .ok (.ireturn, 1) := by decide +kernel
theorem dX5_giveEscorts_0 : decode cX5_giveEscorts 0 = .ok (.iconst 0, 1) := by decide +kernel
theorem dX5_giveEscorts_1 : decode cX5_giveEscorts 1 = .ok (.istore_n 1, 1) := by decide +kernel
theorem dX5_giveEscorts_2 : decode cX5_giveEscorts 2 = .ok (.iload_n 1, 1) := by decide +kernel
theorem dX5_giveEscorts_3 : decode cX5_giveEscorts 3 = .ok (.aload_n 0, 1) := by decide +kernel
theorem dX5_giveEscorts_4 : decode cX5_giveEscorts 4 = .ok (.getfield 24, 3) := by decide +kernel
theorem dX5_giveEscorts_7 : decode cX5_giveEscorts 7 = .ok (.invokevirtual 112, 3) := by decide +kernel
theorem dX5_giveEscorts_10 : decode cX5_giveEscorts 10 = .ok (.if_icmp .ge 57, 3) := by decide +kernel
theorem dX5_giveEscorts_13 : decode cX5_giveEscorts 13 = .ok (.aload_n 0, 1) := by decide +kernel
theorem dX5_giveEscorts_14 : decode cX5_giveEscorts 14 = .ok (.getfield 24, 3) := by decide +kernel
theorem dX5_giveEscorts_17 : decode cX5_giveEscorts 17 = .ok (.iload_n 1, 1) := by decide +kernel
theorem dX5_giveEscorts_18 : decode cX5_giveEscorts 18 = .ok (.invokevirtual 203, 3) := by decide +kernel
theorem dX5_giveEscorts_21 : decode cX5_giveEscorts 21 = .ok (.checkcast 117, 3) := by decide +kernel
theorem dX5_giveEscorts_24 : decode cX5_giveEscorts 24 = .ok (.astore_n 2, 1) := by decide +kernel
theorem dX5_giveEscorts_25 : decode cX5_giveEscorts 25 = .ok (.aload_n 2, 1) := by decide +kernel
theorem dX5_giveEscorts_26 : decode cX5_giveEscorts 26 = .ok (.getfield 158, 3) := by decide +kernel
theorem dX5_giveEscorts_29 : decode cX5_giveEscorts 29 = .ok (.ifCond .ne 32, 3) := by decide +kernel
theorem dX5_giveEscorts_32 : decode cX5_giveEscorts 32 = .ok (.aload_n 0, 1) := by decide +kernel
theorem dX5_giveEscorts_33 : decode cX5_giveEscorts 33 = .ok (.aload_n 2, 1) := by decide +kernel
theorem dX5_giveEscorts_34 : decode cX5_giveEscorts 34 = .ok (.getfield 213, 3) := by decide +kernel
theorem dX5_giveEscorts_37 : decode cX5_giveEscorts 37 = .ok (.invokevirtual 216, 3) := by decide +kernel
theorem dX5_giveEscorts_40 : decode cX5_giveEscorts 40 = .ok (.astore_n 3, 1) := by decide +kernel
theorem dX5_giveEscorts_41 : decode cX5_giveEscorts 41 = .ok (.aload_n 3, 1) := by decide +kernel
theorem dX5_giveEscorts_42 : decode cX5_giveEscorts 42 = .ok (.ifnonnull 4, 3) := by decide +kernel
theorem dX5_giveEscorts_45 : decode cX5_giveEscorts 45 = .ok (.return_, 1) := by decide +kernel
theorem dX5_giveEscorts_46 : decode cX5_giveEscorts 46 = .ok (.aload_n 3, 1) := by decide +kernel
theorem dX5_giveEscorts_47 : decode cX5_giveEscorts 47 = .ok (.iconst 0, 1) := by decide +kernel
theorem dX5_giveEscorts_48 : decode cX5_giveEscorts 48 = .ok (.putfield 102, 3) := by decide +kernel
theorem dX5_giveEscorts_51 : decode cX5_giveEscorts 51 = .ok (.aload_n 2, 1) := by decide +kernel
theorem dX5_giveEscorts_52 : decode cX5_giveEscorts 52 = .ok (.aload_n 3, 1) := by decide +kernel
theorem dX5_giveEscorts_53 : decode cX5_giveEscorts 53 = .ok (.putfield 154, 3) := by decide +kernel
theorem dX5_giveEscorts_56 : decode cX5_giveEscorts 56 = .ok (.aload_n 2, 1) := by decide +kernel
theorem dX5_giveEscorts_57 : decode cX5_giveEscorts 57 = .ok (.iconst 1, 1) := by decide +kernel
theorem dX5_giveEscorts_58 : decode cX5_giveEscorts 58 = .ok (.putfield 158, 3) := by decide +kernel
theorem dX5_giveEscorts_61 : decode cX5_giveEscorts 61 = .ok (.iinc 1 1, 3) := by decide +kernel
theorem dX5_giveEscorts_64 : decode cX5_giveEscorts 64 = .ok (.goto (-62), 3) := by decide +kernel
theorem dX5_giveEscorts_67 : decode cX5_giveEscorts 67 = .ok (.return_, 1) := by decide +kernel
theorem dX5_bestFreeEscort_0 : decode cX5_bestFreeEscort 0 = .ok (.aconst_null, 1) := by decide +kernel
theorem dX5_bestFreeEscort_1 : decode cX5_bestFreeEscort 1 = .ok (.astore_n 2, 1) := by decide +kernel
theorem dX5_bestFreeEscort_2 : decode cX5_bestFreeEscort 2 = .ok (.iconst 0, 1) := by decide +kernel
theorem dX5_bestFreeEscort_3 : decode cX5_bestFreeEscort 3 = .ok (.istore_n 3, 1) := by decide +kernel
theorem dX5_bestFreeEscort_4 : decode cX5_bestFreeEscort 4 = .ok (.iload_n 3, 1) := by decide +kernel
theorem dX5_bestFreeEscort_5 : decode cX5_bestFreeEscort 5 = .ok (.aload_n 0, 1) := by decide +kernel
theorem dX5_bestFreeEscort_6 : decode cX5_bestFreeEscort 6 = .ok (.getfield 17, 3) := by decide +kernel
theorem dX5_bestFreeEscort_9 : decode cX5_bestFreeEscort 9 = .ok (.arraylength, 1) := by decide +kernel
theorem dX5_bestFreeEscort_10 : decode cX5_bestFreeEscort 10 = .ok (.if_icmp .ge 47, 3) := by decide +kernel
theorem dX5_bestFreeEscort_13 : decode cX5_bestFreeEscort 13 = .ok (.aload_n 0, 1) := by decide +kernel
theorem dX5_bestFreeEscort_14 : decode cX5_bestFreeEscort 14 = .ok (.getfield 17, 3) := by decide +kernel
theorem dX5_bestFreeEscort_17 : decode cX5_bestFreeEscort 17 = .ok (.iload_n 3, 1) := by decide +kernel
theorem dX5_bestFreeEscort_18 : decode cX5_bestFreeEscort 18 = .ok (.aaload, 1) := by decide +kernel
theorem dX5_bestFreeEscort_19 : decode cX5_bestFreeEscort 19 = .ok (.astore 4, 2) := by decide +kernel
theorem dX5_bestFreeEscort_21 : decode cX5_bestFreeEscort 21 = .ok (.aload 4, 2) := by decide +kernel
theorem dX5_bestFreeEscort_23 : decode cX5_bestFreeEscort 23 = .ok (.ifnull 28, 3) := by decide +kernel
theorem dX5_bestFreeEscort_26 : decode cX5_bestFreeEscort 26 = .ok (.aload 4, 2) := by decide +kernel
theorem dX5_bestFreeEscort_28 : decode cX5_bestFreeEscort 28 = .ok (.getfield 102, 3) := by decide +kernel
theorem dX5_bestFreeEscort_31 : decode cX5_bestFreeEscort 31 = .ok (.ifCond .eq 20, 3) := by decide +kernel
theorem dX5_bestFreeEscort_34 : decode cX5_bestFreeEscort 34 = .ok (.aload_n 2, 1) := by decide +kernel
theorem dX5_bestFreeEscort_35 : decode cX5_bestFreeEscort 35 = .ok (.ifnull 13, 3) := by decide +kernel
theorem dX5_bestFreeEscort_38 : decode cX5_bestFreeEscort 38 = .ok (.aload 4, 2) := by decide +kernel
theorem dX5_bestFreeEscort_40 : decode cX5_bestFreeEscort 40 = .ok (.aload_n 2, 1) := by decide +kernel
theorem dX5_bestFreeEscort_41 : decode cX5_bestFreeEscort 41 = .ok (.iload_n 1, 1) := by decide +kernel
theorem dX5_bestFreeEscort_42 : decode cX5_bestFreeEscort 42 = .ok (.invokestatic 219, 3) := by decide +kernel
theorem dX5_bestFreeEscort_45 : decode cX5_bestFreeEscort 45 = .ok (.ifCond .eq 6, 3) := by decide +kernel
theorem dX5_bestFreeEscort_48 : decode cX5_bestFreeEscort 48 = .ok (.aload 4, 2) := by decide +kernel
theorem dX5_bestFreeEscort_50 : decode cX5_bestFreeEscort 50 = .ok (.astore_n 2, 1) := by decide +kernel
theorem dX5_bestFreeEscort_51 : decode cX5_bestFreeEscort 51 = .ok (.iinc 3 1, 3) := by decide +kernel
theorem dX5_bestFreeEscort_54 : decode cX5_bestFreeEscort 54 = .ok (.goto (-50), 3) := by decide +kernel
theorem dX5_bestFreeEscort_57 : decode cX5_bestFreeEscort 57 = .ok (.aload_n 2, 1) := by decide +kernel
theorem dX5_bestFreeEscort_58 : decode cX5_bestFreeEscort 58 = .ok (.areturn, 1) := by decide +kernel
theorem dX5_isBetter_0 : decode cX5_isBetter 0 = .ok (.aload_n 0, 1) := by decide +kernel
theorem dX5_isBetter_1 : decode cX5_isBetter 1 = .ok (.getfield 107, 3) := by decide +kernel
theorem dX5_isBetter_4 : decode cX5_isBetter 4 = .ok (.iload_n 2, 1) := by decide +kernel
theorem dX5_isBetter_5 : decode cX5_isBetter 5 = .ok (.invokestatic 186, 3) := by decide +kernel
theorem dX5_isBetter_8 : decode cX5_isBetter 8 = .ok (.istore_n 3, 1) := by decide +kernel
theorem dX5_isBetter_9 : decode cX5_isBetter 9 = .ok (.aload_n 1, 1) := by decide +kernel
theorem dX5_isBetter_10 : decode cX5_isBetter 10 = .ok (.getfield 107, 3) := by decide +kernel
theorem dX5_isBetter_13 : decode cX5_isBetter 13 = .ok (.iload_n 2, 1) := by decide +kernel
theorem dX5_isBetter_14 : decode cX5_isBetter 14 = .ok (.invokestatic 186, 3) := by decide +kernel
theorem dX5_isBetter_17 : decode cX5_isBetter 17 = .ok (.istore 4, 2) := by decide +kernel
theorem dX5_isBetter_19 : decode cX5_isBetter 19 = .ok (.iload_n 3, 1) := by decide +kernel
theorem dX5_isBetter_20 : decode cX5_isBetter 20 = .ok (.iload 4, 2) := by decide +kernel
theorem dX5_isBetter_22 : decode cX5_isBetter 22 = .ok (.if_icmp .lt 20, 3) := by decide +kernel
theorem dX5_isBetter_25 : decode cX5_isBetter 25 = .ok (.iload_n 3, 1) := by decide +kernel
theorem dX5_isBetter_26 : decode cX5_isBetter 26 = .ok (.iload 4, 2) := by decide +kernel
theorem dX5_isBetter_28 : decode cX5_isBetter 28 = .ok (.if_icmp .ne 18, 3) := by decide +kernel
theorem dX5_isBetter_31 : decode cX5_isBetter 31 = .ok (.aload_n 0, 1) := by decide +kernel
theorem dX5_isBetter_32 : decode cX5_isBetter 32 = .ok (.getfield 168, 3) := by decide +kernel
theorem dX5_isBetter_35 : decode cX5_isBetter 35 = .ok (.aload_n 1, 1) := by decide +kernel
theorem dX5_isBetter_36 : decode cX5_isBetter 36 = .ok (.getfield 168, 3) := by decide +kernel
theorem dX5_isBetter_39 : decode cX5_isBetter 39 = .ok (.if_icmp .le 7, 3) := by decide +kernel
theorem dX5_isBetter_42 : decode cX5_isBetter 42 = .ok (.iconst 1, 1) := by decide +kernel
theorem dX5_isBetter_43 : decode cX5_isBetter 43 = .ok (.goto 4, 3) := by decide +kernel
theorem dX5_isBetter_46 : decode cX5_isBetter 46 = .ok (.iconst 0, 1) := by decide +kernel
theorem dX5_isBetter_47 : decode cX5_isBetter 47 = .ok (.ireturn, 1) := by decide +kernel
theorem dX5_goOn_0 : decode cX5_goOn 0 = .ok (.iconst 0, 1) := by decide +kernel
theorem dX5_goOn_1 : decode cX5_goOn 1 = .ok (.istore_n 1, 1) := by decide +kernel
theorem dX5_goOn_2 : decode cX5_goOn 2 = .ok (.iconst 0, 1) := by decide +kernel
theorem dX5_goOn_3 : decode cX5_goOn 3 = .ok (.istore_n 2, 1) := by decide +kernel
theorem dX5_goOn_4 : decode cX5_goOn 4 = .ok (.iload_n 2, 1) := by decide +kernel
theorem dX5_goOn_5 : decode cX5_goOn 5 = .ok (.aload_n 0, 1) := by decide +kernel
theorem dX5_goOn_6 : decode cX5_goOn 6 = .ok (.getfield 24, 3) := by decide +kernel
theorem dX5_goOn_9 : decode cX5_goOn 9 = .ok (.invokevirtual 112, 3) := by decide +kernel
theorem dX5_goOn_12 : decode cX5_goOn 12 = .ok (.if_icmp .ge 73, 3) := by decide +kernel
theorem dX5_goOn_15 : decode cX5_goOn 15 = .ok (.aload_n 0, 1) := by decide +kernel
theorem dX5_goOn_16 : decode cX5_goOn 16 = .ok (.getfield 24, 3) := by decide +kernel
theorem dX5_goOn_19 : decode cX5_goOn 19 = .ok (.iload_n 2, 1) := by decide +kernel
theorem dX5_goOn_20 : decode cX5_goOn 20 = .ok (.invokevirtual 203, 3) := by decide +kernel
theorem dX5_goOn_23 : decode cX5_goOn 23 = .ok (.checkcast 117, 3) := by decide +kernel
theorem dX5_goOn_26 : decode cX5_goOn 26 = .ok (.astore_n 3, 1) := by decide +kernel
theorem dX5_goOn_27 : decode cX5_goOn 27 = .ok (.aload_n 3, 1) := by decide +kernel
theorem dX5_goOn_28 : decode cX5_goOn 28 = .ok (.getfield 154, 3) := by decide +kernel
theorem dX5_goOn_31 : decode cX5_goOn 31 = .ok (.astore 4, 2) := by decide +kernel
theorem dX5_goOn_33 : decode cX5_goOn 33 = .ok (.aload 4, 2) := by decide +kernel
theorem dX5_goOn_35 : decode cX5_goOn 35 = .ok (.ifnull 44, 3) := by decide +kernel
theorem dX5_goOn_38 : decode cX5_goOn 38 = .ok (.aload_n 3, 1) := by decide +kernel
theorem dX5_goOn_39 : decode cX5_goOn 39 = .ok (.getfield 158, 3) := by decide +kernel
theorem dX5_goOn_42 : decode cX5_goOn 42 = .ok (.iconst 3, 1) := by decide +kernel
theorem dX5_goOn_43 : decode cX5_goOn 43 = .ok (.if_icmp .eq 36, 3) := by decide +kernel
theorem dX5_goOn_46 : decode cX5_goOn 46 = .ok (.aload_n 3, 1) := by decide +kernel
theorem dX5_goOn_47 : decode cX5_goOn 47 = .ok (.aload 4, 2) := by decide +kernel
theorem dX5_goOn_49 : decode cX5_goOn 49 = .ok (.invokestatic 223, 3) := by decide +kernel
theorem dX5_goOn_52 : decode cX5_goOn 52 = .ok (.aload_n 3, 1) := by decide +kernel
theorem dX5_goOn_53 : decode cX5_goOn 53 = .ok (.getfield 158, 3) := by decide +kernel
theorem dX5_goOn_56 : decode cX5_goOn 56 = .ok (.iconst 2, 1) := by decide +kernel
theorem dX5_goOn_57 : decode cX5_goOn 57 = .ok (.if_icmp .ne 22, 3) := by decide +kernel
theorem dX5_goOn_60 : decode cX5_goOn 60 = .ok (.aload_n 0, 1) := by decide +kernel
theorem dX5_goOn_61 : decode cX5_goOn 61 = .ok (.aload_n 3, 1) := by decide +kernel
theorem dX5_goOn_62 : decode cX5_goOn 62 = .ok (.aload 4, 2) := by decide +kernel
theorem dX5_goOn_64 : decode cX5_goOn 64 = .ok (.getfield 107, 3) := by decide +kernel
theorem dX5_goOn_67 : decode cX5_goOn 67 = .ok (.invokevirtual 227, 3) := by decide +kernel
theorem dX5_goOn_70 : decode cX5_goOn 70 = .ok (.iload_n 1, 1) := by decide +kernel
theorem dX5_goOn_71 : decode cX5_goOn 71 = .ok (.aload_n 3, 1) := by decide +kernel
theorem dX5_goOn_72 : decode cX5_goOn 72 = .ok (.aload 4, 2) := by decide +kernel
theorem dX5_goOn_74 : decode cX5_goOn 74 = .ok (.invokestatic 231, 3) := by decide +kernel
theorem dX5_goOn_77 : decode cX5_goOn 77 = .ok (.iadd, 1) := by decide +kernel
theorem dX5_goOn_78 : decode cX5_goOn 78 = .ok (.istore_n 1, 1) := by decide +kernel
theorem dX5_goOn_79 : decode cX5_goOn 79 = .ok (.iinc 2 1, 3) := by decide +kernel
theorem dX5_goOn_82 : decode cX5_goOn 82 = .ok (.goto (-78), 3) := by decide +kernel
theorem dX5_goOn_85 : decode cX5_goOn 85 = .ok (.iload_n 1, 1) := by decide +kernel
theorem dX5_goOn_86 : decode cX5_goOn 86 = .ok (.ireturn, 1) := by decide +kernel
theorem dX5_move_0 : decode cX5_move 0 = .ok (.aload_n 0, 1) := by decide +kernel
theorem dX5_move_1 : decode cX5_move 1 = .ok (.getfield 158, 3) := by decide +kernel
theorem dX5_move_4 : decode cX5_move 4 = .ok (.iconst 2, 1) := by decide +kernel
theorem dX5_move_5 : decode cX5_move 5 = .ok (.if_icmp .ne 19, 3) := by decide +kernel
theorem dX5_move_8 : decode cX5_move 8 = .ok (.aload_n 1, 1) := by decide +kernel
theorem dX5_move_9 : decode cX5_move 9 = .ok (.aload_n 1, 1) := by decide +kernel
theorem dX5_move_10 : decode cX5_move 10 = .ok (.getfield 107, 3) := by decide +kernel
theorem dX5_move_13 : decode cX5_move 13 = .ok (.aload_n 0, 1) := by decide +kernel
theorem dX5_move_14 : decode cX5_move 14 = .ok (.getfield 235, 3) := by decide +kernel
theorem dX5_move_17 : decode cX5_move 17 = .ok (.invokestatic 238, 3) := by decide +kernel
theorem dX5_move_20 : decode cX5_move 20 = .ok (.putfield 107, 3) := by decide +kernel
theorem dX5_move_23 : decode cX5_move 23 = .ok (.return_, 1) := by decide +kernel
theorem dX5_move_24 : decode cX5_move 24 = .ok (.aload_n 1, 1) := by decide +kernel
theorem dX5_move_25 : decode cX5_move 25 = .ok (.aload_n 1, 1) := by decide +kernel
theorem dX5_move_26 : decode cX5_move 26 = .ok (.getfield 107, 3) := by decide +kernel
theorem dX5_move_29 : decode cX5_move 29 = .ok (.aload_n 0, 1) := by decide +kernel
theorem dX5_move_30 : decode cX5_move 30 = .ok (.getfield 213, 3) := by decide +kernel
theorem dX5_move_33 : decode cX5_move 33 = .ok (.invokestatic 238, 3) := by decide +kernel
theorem dX5_move_36 : decode cX5_move 36 = .ok (.putfield 107, 3) := by decide +kernel
theorem dX5_move_39 : decode cX5_move 39 = .ok (.aload_n 1, 1) := by decide +kernel
theorem dX5_move_40 : decode cX5_move 40 = .ok (.getfield 107, 3) := by decide +kernel
theorem dX5_move_43 : decode cX5_move 43 = .ok (.aload_n 0, 1) := by decide +kernel
theorem dX5_move_44 : decode cX5_move 44 = .ok (.getfield 213, 3) := by decide +kernel
theorem dX5_move_47 : decode cX5_move 47 = .ok (.if_icmp .ne 8, 3) := by decide +kernel
theorem dX5_move_50 : decode cX5_move 50 = .ok (.aload_n 0, 1) := by decide +kernel
theorem dX5_move_51 : decode cX5_move 51 = .ok (.iconst 2, 1) := by decide +kernel
theorem dX5_move_52 : decode cX5_move 52 = .ok (.putfield 158, 3) := by decide +kernel
theorem dX5_move_55 : decode cX5_move 55 = .ok (.return_, 1) := by decide +kernel
theorem dX5_see_0 : decode cX5_see 0 = .ok (.aload_n 0, 1) := by decide +kernel
theorem dX5_see_1 : decode cX5_see 1 = .ok (.iload_n 2, 1) := by decide +kernel
theorem dX5_see_2 : decode cX5_see 2 = .ok (.invokevirtual 46, 3) := by decide +kernel
theorem dX5_see_5 : decode cX5_see 5 = .ok (.astore_n 3, 1) := by decide +kernel
theorem dX5_see_6 : decode cX5_see 6 = .ok (.aload_n 3, 1) := by decide +kernel
theorem dX5_see_7 : decode cX5_see 7 = .ok (.ifnonnull 4, 3) := by decide +kernel
theorem dX5_see_10 : decode cX5_see 10 = .ok (.return_, 1) := by decide +kernel
theorem dX5_see_11 : decode cX5_see 11 = .ok (.aload_n 3, 1) := by decide +kernel
theorem dX5_see_12 : decode cX5_see 12 = .ok (.getfield 62, 3) := by decide +kernel
theorem dX5_see_15 : decode cX5_see 15 = .ok (.aload_n 3, 1) := by decide +kernel
theorem dX5_see_16 : decode cX5_see 16 = .ok (.getfield 73, 3) := by decide +kernel
theorem dX5_see_19 : decode cX5_see 19 = .ok (.if_icmp .lt 19, 3) := by decide +kernel
theorem dX5_see_22 : decode cX5_see 22 = .ok (.aload_n 3, 1) := by decide +kernel
theorem dX5_see_23 : decode cX5_see 23 = .ok (.dup, 1) := by decide +kernel
theorem dX5_see_24 : decode cX5_see 24 = .ok (.getfield 62, 3) := by decide +kernel
theorem dX5_see_27 : decode cX5_see 27 = .ok (.aload_n 3, 1) := by decide +kernel
theorem dX5_see_28 : decode cX5_see 28 = .ok (.getfield 73, 3) := by decide +kernel
theorem dX5_see_31 : decode cX5_see 31 = .ok (.isub, 1) := by decide +kernel
theorem dX5_see_32 : decode cX5_see 32 = .ok (.putfield 62, 3) := by decide +kernel
theorem dX5_see_35 : decode cX5_see 35 = .ok (.goto 13, 3) := by decide +kernel
theorem dX5_see_38 : decode cX5_see 38 = .ok (.aload_n 1, 1) := by decide +kernel
theorem dX5_see_39 : decode cX5_see 39 = .ok (.dup, 1) := by decide +kernel
theorem dX5_see_40 : decode cX5_see 40 = .ok (.getfield 183, 3) := by decide +kernel
theorem dX5_see_43 : decode cX5_see 43 = .ok (.iconst 1, 1) := by decide +kernel
theorem dX5_see_44 : decode cX5_see 44 = .ok (.iadd, 1) := by decide +kernel
theorem dX5_see_45 : decode cX5_see 45 = .ok (.putfield 183, 3) := by decide +kernel
theorem dX5_see_48 : decode cX5_see 48 = .ok (.aload_n 3, 1) := by decide +kernel
theorem dX5_see_49 : decode cX5_see 49 = .ok (.getfield 76, 3) := by decide +kernel
theorem dX5_see_52 : decode cX5_see 52 = .ok (.ifCond .eq 28, 3) := by decide +kernel
theorem dX5_see_55 : decode cX5_see 55 = .ok (.aload_n 0, 1) := by decide +kernel
theorem dX5_see_56 : decode cX5_see 56 = .ok (.getfield 31, 3) := by decide +kernel
theorem dX5_see_59 : decode cX5_see 59 = .ok (.iload_n 2, 1) := by decide +kernel
theorem dX5_see_60 : decode cX5_see 60 = .ok (.aload_n 1, 1) := by decide +kernel
theorem dX5_see_61 : decode cX5_see 61 = .ok (.getfield 241, 3) := by decide +kernel
theorem dX5_see_64 : decode cX5_see 64 = .ok (.aload_n 0, 1) := by decide +kernel
theorem dX5_see_65 : decode cX5_see 65 = .ok (.getfield 35, 3) := by decide +kernel
theorem dX5_see_68 : decode cX5_see 68 = .ok (.aload_n 0, 1) := by decide +kernel
theorem dX5_see_69 : decode cX5_see 69 = .ok (.getfield 35, 3) := by decide +kernel
theorem dX5_see_72 : decode cX5_see 72 = .ok (.aload_n 3, 1) := by decide +kernel
theorem dX5_see_73 : decode cX5_see 73 = .ok (.invokevirtual 88, 3) := by decide +kernel
theorem dX5_see_76 : decode cX5_see 76 = .ok (.iadd, 1) := by decide +kernel
theorem dX5_see_77 : decode cX5_see 77 = .ok (.invokevirtual 242, 3) := by decide +kernel
theorem dX5_see_80 : decode cX5_see 80 = .ok (.return_, 1) := by decide +kernel
theorem dX5_endIfThere_0 : decode cX5_endIfThere 0 = .ok (.aload_n 1, 1) := by decide +kernel
theorem dX5_endIfThere_1 : decode cX5_endIfThere 1 = .ok (.getfield 107, 3) := by decide +kernel
theorem dX5_endIfThere_4 : decode cX5_endIfThere 4 = .ok (.aload_n 0, 1) := by decide +kernel
theorem dX5_endIfThere_5 : decode cX5_endIfThere 5 = .ok (.getfield 235, 3) := by decide +kernel
theorem dX5_endIfThere_8 : decode cX5_endIfThere 8 = .ok (.if_icmp .eq 5, 3) := by decide +kernel
theorem dX5_endIfThere_11 : decode cX5_endIfThere 11 = .ok (.iconst 0, 1) := by decide +kernel
theorem dX5_endIfThere_12 : decode cX5_endIfThere 12 = .ok (.ireturn, 1) := by decide +kernel
theorem dX5_endIfThere_13 : decode cX5_endIfThere 13 = .ok (.aload_n 0, 1) := by decide +kernel
theorem dX5_endIfThere_14 : decode cX5_endIfThere 14 = .ok (.iconst 3, 1) := by decide +kernel
theorem dX5_endIfThere_15 : decode cX5_endIfThere 15 = .ok (.putfield 158, 3) := by decide +kernel
theorem dX5_endIfThere_18 : decode cX5_endIfThere 18 = .ok (.aload_n 1, 1) := by decide +kernel
theorem dX5_endIfThere_19 : decode cX5_endIfThere 19 = .ok (.iconst 1, 1) := by decide +kernel
theorem dX5_endIfThere_20 : decode cX5_endIfThere 20 = .ok (.putfield 102, 3) := by decide +kernel
theorem dX5_endIfThere_23 : decode cX5_endIfThere 23 = .ok (.iconst 1, 1) := by decide +kernel
theorem dX5_endIfThere_24 : decode cX5_endIfThere 24 = .ok (.ireturn, 1) := by decide +kernel
theorem dX5_areAllOver_0 : decode cX5_areAllOver 0 = .ok (.iconst 0, 1) := by decide +kernel
theorem dX5_areAllOver_1 : decode cX5_areAllOver 1 = .ok (.istore_n 1, 1) := by decide +kernel
theorem dX5_areAllOver_2 : decode cX5_areAllOver 2 = .ok (.iload_n 1, 1) := by decide +kernel
theorem dX5_areAllOver_3 : decode cX5_areAllOver 3 = .ok (.aload_n 0, 1) := by decide +kernel
theorem dX5_areAllOver_4 : decode cX5_areAllOver 4 = .ok (.getfield 24, 3) := by decide +kernel
theorem dX5_areAllOver_7 : decode cX5_areAllOver 7 = .ok (.invokevirtual 112, 3) := by decide +kernel
theorem dX5_areAllOver_10 : decode cX5_areAllOver 10 = .ok (.if_icmp .ge 29, 3) := by decide +kernel
theorem dX5_areAllOver_13 : decode cX5_areAllOver 13 = .ok (.aload_n 0, 1) := by decide +kernel
theorem dX5_areAllOver_14 : decode cX5_areAllOver 14 = .ok (.getfield 24, 3) := by decide +kernel
theorem dX5_areAllOver_17 : decode cX5_areAllOver 17 = .ok (.iload_n 1, 1) := by decide +kernel
theorem dX5_areAllOver_18 : decode cX5_areAllOver 18 = .ok (.invokevirtual 203, 3) := by decide +kernel
theorem dX5_areAllOver_21 : decode cX5_areAllOver 21 = .ok (.checkcast 117, 3) := by decide +kernel
theorem dX5_areAllOver_24 : decode cX5_areAllOver 24 = .ok (.getfield 158, 3) := by decide +kernel
theorem dX5_areAllOver_27 : decode cX5_areAllOver 27 = .ok (.iconst 3, 1) := by decide +kernel
theorem dX5_areAllOver_28 : decode cX5_areAllOver 28 = .ok (.if_icmp .eq 5, 3) := by decide +kernel
theorem dX5_areAllOver_31 : decode cX5_areAllOver 31 = .ok (.iconst 0, 1) := by decide +kernel
theorem dX5_areAllOver_32 : decode cX5_areAllOver 32 = .ok (.ireturn, 1) := by decide +kernel
theorem dX5_areAllOver_33 : decode cX5_areAllOver 33 = .ok (.iinc 1 1, 3) := by decide +kernel
theorem dX5_areAllOver_36 : decode cX5_areAllOver 36 = .ok (.goto (-34), 3) := by decide +kernel
theorem dX5_areAllOver_39 : decode cX5_areAllOver 39 = .ok (.iconst 1, 1) := by decide +kernel
theorem dX5_areAllOver_40 : decode cX5_areAllOver 40 = .ok (.ireturn, 1) := by decide +kernel
theorem dJ9_floorMod_7cf53_0 : decode cJ9_floorMod_7cf53 0 = .ok (.iload_n 0, 1) := by decide +kernel
theorem dJ9_floorMod_7cf53_1 : decode cJ9_floorMod_7cf53 1 = .ok (.iload_n 1, 1) := by decide +kernel
theorem dJ9_floorMod_7cf53_2 : decode cJ9_floorMod_7cf53 2 = .ok (.irem, 1) := by decide +kernel
theorem dJ9_floorMod_7cf53_3 : decode cJ9_floorMod_7cf53 3 = .ok (.istore_n 2, 1) := by decide +kernel
theorem dJ9_floorMod_7cf53_4 : decode cJ9_floorMod_7cf53 4 = .ok (.iload_n 0, 1) := by decide +kernel
theorem dJ9_floorMod_7cf53_5 : decode cJ9_floorMod_7cf53 5 = .ok (.iload_n 1, 1) := by decide +kernel
theorem dJ9_floorMod_7cf53_6 : decode cJ9_floorMod_7cf53 6 = .ok (.ixor, 1) := by decide +kernel
theorem dJ9_floorMod_7cf53_7 : decode cJ9_floorMod_7cf53 7 = .ok (.ifCond .ge 11, 3) := by decide +kernel
theorem dJ9_floorMod_7cf53_10 : decode cJ9_floorMod_7cf53 10 = .ok (.iload_n 2, 1) := by decide +kernel
theorem dJ9_floorMod_7cf53_11 : decode cJ9_floorMod_7cf53 11 = .ok (.ifCond .eq 7, 3) := by decide +kernel
theorem dJ9_floorMod_7cf53_14 : decode cJ9_floorMod_7cf53 14 = .ok (.iload_n 2, 1) := by decide +kernel
theorem dJ9_floorMod_7cf53_15 : decode cJ9_floorMod_7cf53 15 = .ok (.iload_n 1, 1) := by decide +kernel
theorem dJ9_floorMod_7cf53_16 : decode cJ9_floorMod_7cf53 16 = .ok (.iadd, 1) := by decide +kernel
theorem dJ9_floorMod_7cf53_17 : decode cJ9_floorMod_7cf53 17 = .ok (.ireturn, 1) := by decide +kernel
theorem dJ9_floorMod_7cf53_18 : decode cJ9_floorMod_7cf53 18 = .ok (.iload_n 2, 1) := by decide +kernel
theorem dJ9_floorMod_7cf53_19 : decode cJ9_floorMod_7cf53 19 = .ok (.ireturn, 1) := by decide +kernel
theorem dJ9_max_7cf53_0 : decode cJ9_max_7cf53 0 = .ok (.iload_n 0, 1) := by decide +kernel
theorem dJ9_max_7cf53_1 : decode cJ9_max_7cf53 1 = .ok (.iload_n 1, 1) := by decide +kernel
theorem dJ9_max_7cf53_2 : decode cJ9_max_7cf53 2 = .ok (.if_icmp .lt 7, 3) := by decide +kernel
theorem dJ9_max_7cf53_5 : decode cJ9_max_7cf53 5 = .ok (.iload_n 0, 1) := by decide +kernel
theorem dJ9_max_7cf53_6 : decode cJ9_max_7cf53 6 = .ok (.goto 4, 3) := by decide +kernel
theorem dJ9_max_7cf53_9 : decode cJ9_max_7cf53 9 = .ok (.iload_n 1, 1) := by decide +kernel
theorem dJ9_max_7cf53_10 : decode cJ9_max_7cf53 10 = .ok (.ireturn, 1) := by decide +kernel
theorem dJ9_min_7cf53_0 : decode cJ9_min_7cf53 0 = .ok (.iload_n 0, 1) := by decide +kernel
theorem dJ9_min_7cf53_1 : decode cJ9_min_7cf53 1 = .ok (.iload_n 1, 1) := by decide +kernel
theorem dJ9_min_7cf53_2 : decode cJ9_min_7cf53 2 = .ok (.if_icmp .gt 7, 3) := by decide +kernel
theorem dJ9_min_7cf53_5 : decode cJ9_min_7cf53 5 = .ok (.iload_n 0, 1) := by decide +kernel
theorem dJ9_min_7cf53_6 : decode cJ9_min_7cf53 6 = .ok (.goto 4, 3) := by decide +kernel
theorem dJ9_min_7cf53_9 : decode cJ9_min_7cf53 9 = .ok (.iload_n 1, 1) := by decide +kernel
theorem dJ9_min_7cf53_10 : decode cJ9_min_7cf53 10 = .ok (.ireturn, 1) := by decide +kernel
theorem dJxa1e45_init_da8c8_0 : decode cJxa1e45_init_da8c8 0 = .ok (.aload_n 0, 1) := by decide +kernel
theorem dJxa1e45_init_da8c8_1 : decode cJxa1e45_init_da8c8 1 = .ok (.invokespecial 1, 3) := by decide +kernel
theorem dJxa1e45_init_da8c8_4 : decode cJxa1e45_init_da8c8 4 = .ok (.return_, 1) := by decide +kernel
theorem dJxc12de_init_da8c8_0 : decode cJxc12de_init_da8c8 0 = .ok (.aload_n 0, 1) := by decide +kernel
theorem dJxc12de_init_da8c8_1 : decode cJxc12de_init_da8c8 1 = .ok (.invokespecial 1, 3) := by decide +kernel
theorem dJxc12de_init_da8c8_4 : decode cJxc12de_init_da8c8 4 = .ok (.aload_n 0, 1) := by decide +kernel
theorem dJxc12de_init_da8c8_5 : decode cJxc12de_init_da8c8 5 = .ok (.iconst 0, 1) := by decide +kernel
theorem dJxc12de_init_da8c8_6 : decode cJxc12de_init_da8c8 6 = .ok (.putfield 7, 3) := by decide +kernel
theorem dJxc12de_init_da8c8_9 : decode cJxc12de_init_da8c8 9 = .ok (.return_, 1) := by decide +kernel
theorem dJx4a65c_init_da8c8_0 : decode cJx4a65c_init_da8c8 0 = .ok (.aload_n 0, 1) := by decide +kernel
theorem dJx4a65c_init_da8c8_1 : decode cJx4a65c_init_da8c8 1 = .ok (.invokespecial 1, 3) := by decide +kernel
theorem dJx4a65c_init_da8c8_4 : decode cJx4a65c_init_da8c8 4 = .ok (.aload_n 0, 1) := by decide +kernel
theorem dJx4a65c_init_da8c8_5 : decode cJx4a65c_init_da8c8 5 = .ok (.getstatic 39, 3) := by decide +kernel
theorem dJx4a65c_init_da8c8_8 : decode cJx4a65c_init_da8c8 8 = .ok (.putfield 9, 3) := by decide +kernel
theorem dJx4a65c_init_da8c8_11 : decode cJx4a65c_init_da8c8 11 = .ok (.return_, 1) := by decide +kernel
theorem dJx4a65c_grow_92f84_0 : decode cJx4a65c_grow_92f84 0 = .ok (.aload_n 0, 1) := by decide +kernel
theorem dJx4a65c_grow_92f84_1 : decode cJx4a65c_grow_92f84 1 = .ok (.getfield 9, 3) := by decide +kernel
theorem dJx4a65c_grow_92f84_4 : decode cJx4a65c_grow_92f84 4 = .ok (.arraylength, 1) := by decide +kernel
theorem dJx4a65c_grow_92f84_5 : decode cJx4a65c_grow_92f84 5 = .ok (.istore_n 2, 1) := by decide +kernel
theorem dJx4a65c_grow_92f84_6 : decode cJx4a65c_grow_92f84 6 = .ok (.iload_n 2, 1) := by decide +kernel
theorem dJx4a65c_grow_92f84_7 : decode cJx4a65c_grow_92f84 7 = .ok (.ifCond .gt 13, 3) := by decide +kernel
theorem dJx4a65c_grow_92f84_10 : decode cJx4a65c_grow_92f84 10 = .ok (.aload_n 0, 1) := by decide +kernel
theorem dJx4a65c_grow_92f84_11 : decode cJx4a65c_grow_92f84 11 = .ok (.getfield 9, 3) := by decide +kernel
theorem dJx4a65c_grow_92f84_14 : decode cJx4a65c_grow_92f84 14 = .ok (.getstatic 39, 3) := by decide +kernel
theorem dJx4a65c_grow_92f84_17 : decode cJx4a65c_grow_92f84 17 = .ok (.if_acmp .eq 28, 3) := by decide +kernel
theorem dJx4a65c_grow_92f84_20 : decode cJx4a65c_grow_92f84 20 = .ok (.iload_n 2, 1) := by decide +kernel
theorem dJx4a65c_grow_92f84_21 : decode cJx4a65c_grow_92f84 21 = .ok (.iload_n 1, 1) := by decide +kernel
theorem dJx4a65c_grow_92f84_22 : decode cJx4a65c_grow_92f84 22 = .ok (.iload_n 2, 1) := by decide +kernel
theorem dJx4a65c_grow_92f84_23 : decode cJx4a65c_grow_92f84 23 = .ok (.isub, 1) := by decide +kernel
theorem dJx4a65c_grow_92f84_24 : decode cJx4a65c_grow_92f84 24 = .ok (.iload_n 2, 1) := by decide +kernel
theorem dJx4a65c_grow_92f84_25 : decode cJx4a65c_grow_92f84 25 = .ok (.iconst 1, 1) := by decide +kernel
theorem dJx4a65c_grow_92f84_26 : decode cJx4a65c_grow_92f84 26 = .ok (.ishr, 1) := by decide +kernel
theorem dJx4a65c_grow_92f84_27 : decode cJx4a65c_grow_92f84 27 = .ok (.invokestatic 73, 3) := by decide +kernel
theorem dJx4a65c_grow_92f84_30 : decode cJx4a65c_grow_92f84 30 = .ok (.istore_n 3, 1) := by decide +kernel
theorem dJx4a65c_grow_92f84_31 : decode cJx4a65c_grow_92f84 31 = .ok (.aload_n 0, 1) := by decide +kernel
theorem dJx4a65c_grow_92f84_32 : decode cJx4a65c_grow_92f84 32 = .ok (.aload_n 0, 1) := by decide +kernel
theorem dJx4a65c_grow_92f84_33 : decode cJx4a65c_grow_92f84 33 = .ok (.getfield 9, 3) := by decide +kernel
theorem dJx4a65c_grow_92f84_36 : decode cJx4a65c_grow_92f84 36 = .ok (.iload_n 3, 1) := by decide +kernel
theorem dJx4a65c_grow_92f84_37 : decode cJx4a65c_grow_92f84 37 = .ok (.invokestatic 66, 3) := by decide +kernel
theorem dJx4a65c_grow_92f84_40 : decode cJx4a65c_grow_92f84 40 = .ok (.dup_x1, 1) := by decide +kernel
theorem dJx4a65c_grow_92f84_41 : decode cJx4a65c_grow_92f84 41 = .ok (.putfield 9, 3) := by decide +kernel
theorem dJx4a65c_grow_92f84_44 : decode cJx4a65c_grow_92f84 44 = .ok (.areturn, 1) := by decide +kernel
theorem dJx4a65c_grow_92f84_45 : decode cJx4a65c_grow_92f84 45 = .ok (.aload_n 0, 1) := by decide +kernel
theorem dJx4a65c_grow_92f84_46 : decode cJx4a65c_grow_92f84 46 = .ok (.bipush 10, 2) := by decide +kernel
theorem dJx4a65c_grow_92f84_48 : decode cJx4a65c_grow_92f84 48 = .ok (.iload_n 1, 1) := by decide +kernel
theorem dJx4a65c_grow_92f84_49 : decode cJx4a65c_grow_92f84 49 = .ok (.invokestatic 79, 3) := by decide +kernel
theorem dJx4a65c_grow_92f84_52 : decode cJx4a65c_grow_92f84 52 = .ok (.anewarray 7, 3) := by decide +kernel
theorem dJx4a65c_grow_92f84_55 : decode cJx4a65c_grow_92f84 55 = .ok (.dup_x1, 1) := by decide +kernel
theorem dJx4a65c_grow_92f84_56 : decode cJx4a65c_grow_92f84 56 = .ok (.putfield 9, 3) := by decide +kernel
theorem dJx4a65c_grow_92f84_59 : decode cJx4a65c_grow_92f84 59 = .ok (.areturn, 1) := by decide +kernel
theorem dJx4a65c_grow_d5877_0 : decode cJx4a65c_grow_d5877 0 = .ok (.aload_n 0, 1) := by decide +kernel
theorem dJx4a65c_grow_d5877_1 : decode cJx4a65c_grow_d5877 1 = .ok (.aload_n 0, 1) := by decide +kernel
theorem dJx4a65c_grow_d5877_2 : decode cJx4a65c_grow_d5877 2 = .ok (.getfield 48, 3) := by decide +kernel
theorem dJx4a65c_grow_d5877_5 : decode cJx4a65c_grow_d5877 5 = .ok (.iconst 1, 1) := by decide +kernel
theorem dJx4a65c_grow_d5877_6 : decode cJx4a65c_grow_d5877 6 = .ok (.iadd, 1) := by decide +kernel
theorem dJx4a65c_grow_d5877_7 : decode cJx4a65c_grow_d5877 7 = .ok (.invokevirtual 69, 3) := by decide +kernel
theorem dJx4a65c_grow_d5877_10 : decode cJx4a65c_grow_d5877 10 = .ok (.areturn, 1) := by decide +kernel
theorem dJx4a65c_size_8abf5_0 : decode cJx4a65c_size_8abf5 0 = .ok (.aload_n 0, 1) := by decide +kernel
theorem dJx4a65c_size_8abf5_1 : decode cJx4a65c_size_8abf5 1 = .ok (.getfield 48, 3) := by decide +kernel
theorem dJx4a65c_size_8abf5_4 : decode cJx4a65c_size_8abf5 4 = .ok (.ireturn, 1) := by decide +kernel
theorem dJx4a65c_elementData_915e3_0 : decode cJx4a65c_elementData_915e3 0 = .ok (.aload_n 0, 1) := by decide +kernel
theorem dJx4a65c_elementData_915e3_1 : decode cJx4a65c_elementData_915e3 1 = .ok (.getfield 9, 3) := by decide +kernel
theorem dJx4a65c_elementData_915e3_4 : decode cJx4a65c_elementData_915e3 4 = .ok (.iload_n 1, 1) := by decide +kernel
theorem dJx4a65c_elementData_915e3_5 : decode cJx4a65c_elementData_915e3 5 = .ok (.aaload, 1) := by decide +kernel
theorem dJx4a65c_elementData_915e3_6 : decode cJx4a65c_elementData_915e3 6 = .ok (.areturn, 1) := by decide +kernel
theorem dJx4a65c_get_915e3_0 : decode cJx4a65c_get_915e3 0 = .ok (.iload_n 1, 1) := by decide +kernel
theorem dJx4a65c_get_915e3_1 : decode cJx4a65c_get_915e3 1 = .ok (.aload_n 0, 1) := by decide +kernel
theorem dJx4a65c_get_915e3_2 : decode cJx4a65c_get_915e3 2 = .ok (.getfield 48, 3) := by decide +kernel
theorem dJx4a65c_get_915e3_5 : decode cJx4a65c_get_915e3 5 = .ok (.invokestatic 118, 3) := by decide +kernel
theorem dJx4a65c_get_915e3_8 : decode cJx4a65c_get_915e3 8 = .ok (.pop, 1) := by decide +kernel
theorem dJx4a65c_get_915e3_9 : decode cJx4a65c_get_915e3 9 = .ok (.aload_n 0, 1) := by decide +kernel
theorem dJx4a65c_get_915e3_10 : decode cJx4a65c_get_915e3 10 = .ok (.iload_n 1, 1) := by decide +kernel
theorem dJx4a65c_get_915e3_11 : decode cJx4a65c_get_915e3 11 = .ok (.invokevirtual 123, 3) := by decide +kernel
theorem dJx4a65c_get_915e3_14 : decode cJx4a65c_get_915e3 14 = .ok (.areturn, 1) := by decide +kernel
theorem dJx4a65c_add_72be8_0 : decode cJx4a65c_add_72be8 0 = .ok (.iload_n 3, 1) := by decide +kernel
theorem dJx4a65c_add_72be8_1 : decode cJx4a65c_add_72be8 1 = .ok (.aload_n 2, 1) := by decide +kernel
theorem dJx4a65c_add_72be8_2 : decode cJx4a65c_add_72be8 2 = .ok (.arraylength, 1) := by decide +kernel
theorem dJx4a65c_add_72be8_3 : decode cJx4a65c_add_72be8 3 = .ok (.if_icmp .ne 8, 3) := by decide +kernel
theorem dJx4a65c_add_72be8_6 : decode cJx4a65c_add_72be8 6 = .ok (.aload_n 0, 1) := by decide +kernel
theorem dJx4a65c_add_72be8_7 : decode cJx4a65c_add_72be8 7 = .ok (.invokevirtual 129, 3) := by decide +kernel
theorem dJx4a65c_add_72be8_10 : decode cJx4a65c_add_72be8 10 = .ok (.astore_n 2, 1) := by decide +kernel
theorem dJx4a65c_add_72be8_11 : decode cJx4a65c_add_72be8 11 = .ok (.aload_n 2, 1) := by decide +kernel
theorem dJx4a65c_add_72be8_12 : decode cJx4a65c_add_72be8 12 = .ok (.iload_n 3, 1) := by decide +kernel
theorem dJx4a65c_add_72be8_13 : decode cJx4a65c_add_72be8 13 = .ok (.aload_n 1, 1) := by decide +kernel
theorem dJx4a65c_add_72be8_14 : decode cJx4a65c_add_72be8 14 = .ok (.aastore, 1) := by decide +kernel
theorem dJx4a65c_add_72be8_15 : decode cJx4a65c_add_72be8 15 = .ok (.aload_n 0, 1) := by decide +kernel
theorem dJx4a65c_add_72be8_16 : decode cJx4a65c_add_72be8 16 = .ok (.iload_n 3, 1) := by decide +kernel
theorem dJx4a65c_add_72be8_17 : decode cJx4a65c_add_72be8 17 = .ok (.iconst 1, 1) := by decide +kernel
theorem dJx4a65c_add_72be8_18 : decode cJx4a65c_add_72be8 18 = .ok (.iadd, 1) := by decide +kernel
theorem dJx4a65c_add_72be8_19 : decode cJx4a65c_add_72be8 19 = .ok (.putfield 48, 3) := by decide +kernel
theorem dJx4a65c_add_72be8_22 : decode cJx4a65c_add_72be8 22 = .ok (.return_, 1) := by decide +kernel
theorem dJx4a65c_add_9ea2d_0 : decode cJx4a65c_add_9ea2d 0 = .ok (.aload_n 0, 1) := by decide +kernel
theorem dJx4a65c_add_9ea2d_1 : decode cJx4a65c_add_9ea2d 1 = .ok (.dup, 1) := by decide +kernel
theorem dJx4a65c_add_9ea2d_2 : decode cJx4a65c_add_9ea2d 2 = .ok (.getfield 63, 3) := by decide +kernel
theorem dJx4a65c_add_9ea2d_5 : decode cJx4a65c_add_9ea2d 5 = .ok (.iconst 1, 1) := by decide +kernel
theorem dJx4a65c_add_9ea2d_6 : decode cJx4a65c_add_9ea2d 6 = .ok (.iadd, 1) := by decide +kernel
theorem dJx4a65c_add_9ea2d_7 : decode cJx4a65c_add_9ea2d 7 = .ok (.putfield 63, 3) := by decide +kernel
theorem dJx4a65c_add_9ea2d_10 : decode cJx4a65c_add_9ea2d 10 = .ok (.aload_n 0, 1) := by decide +kernel
theorem dJx4a65c_add_9ea2d_11 : decode cJx4a65c_add_9ea2d 11 = .ok (.aload_n 1, 1) := by decide +kernel
theorem dJx4a65c_add_9ea2d_12 : decode cJx4a65c_add_9ea2d 12 = .ok (.aload_n 0, 1) := by decide +kernel
theorem dJx4a65c_add_9ea2d_13 : decode cJx4a65c_add_9ea2d 13 = .ok (.getfield 9, 3) := by decide +kernel
theorem dJx4a65c_add_9ea2d_16 : decode cJx4a65c_add_9ea2d 16 = .ok (.aload_n 0, 1) := by decide +kernel
theorem dJx4a65c_add_9ea2d_17 : decode cJx4a65c_add_9ea2d 17 = .ok (.getfield 48, 3) := by decide +kernel
theorem dJx4a65c_add_9ea2d_20 : decode cJx4a65c_add_9ea2d 20 = .ok (.invokevirtual 131, 3) := by decide +kernel
theorem dJx4a65c_add_9ea2d_23 : decode cJx4a65c_add_9ea2d 23 = .ok (.iconst 1, 1) := by decide +kernel
theorem dJx4a65c_add_9ea2d_24 : decode cJx4a65c_add_9ea2d 24 = .ok (.ireturn, 1) := by decide +kernel
theorem dJx4a65c_remove_915e3_0 : decode cJx4a65c_remove_915e3 0 = .ok (.iload_n 1, 1) := by decide +kernel
theorem dJx4a65c_remove_915e3_1 : decode cJx4a65c_remove_915e3 1 = .ok (.aload_n 0, 1) := by decide +kernel
theorem dJx4a65c_remove_915e3_2 : decode cJx4a65c_remove_915e3 2 = .ok (.getfield 48, 3) := by decide +kernel
theorem dJx4a65c_remove_915e3_5 : decode cJx4a65c_remove_915e3 5 = .ok (.invokestatic 118, 3) := by decide +kernel
theorem dJx4a65c_remove_915e3_8 : decode cJx4a65c_remove_915e3 8 = .ok (.pop, 1) := by decide +kernel
theorem dJx4a65c_remove_915e3_9 : decode cJx4a65c_remove_915e3 9 = .ok (.aload_n 0, 1) := by decide +kernel
theorem dJx4a65c_remove_915e3_10 : decode cJx4a65c_remove_915e3 10 = .ok (.getfield 9, 3) := by decide +kernel
theorem dJx4a65c_remove_915e3_13 : decode cJx4a65c_remove_915e3 13 = .ok (.astore_n 2, 1) := by decide +kernel
theorem dJx4a65c_remove_915e3_14 : decode cJx4a65c_remove_915e3 14 = .ok (.aload_n 2, 1) := by decide +kernel
theorem dJx4a65c_remove_915e3_15 : decode cJx4a65c_remove_915e3 15 = .ok (.iload_n 1, 1) := by decide +kernel
theorem dJx4a65c_remove_915e3_16 : decode cJx4a65c_remove_915e3 16 = .ok (.aaload, 1) := by decide +kernel
theorem dJx4a65c_remove_915e3_17 : decode cJx4a65c_remove_915e3 17 = .ok (.astore_n 3, 1) := by decide +kernel
theorem dJx4a65c_remove_915e3_18 : decode cJx4a65c_remove_915e3 18 = .ok (.aload_n 0, 1) := by decide +kernel
theorem dJx4a65c_remove_915e3_19 : decode cJx4a65c_remove_915e3 19 = .ok (.aload_n 2, 1) := by decide +kernel
theorem dJx4a65c_remove_915e3_20 : decode cJx4a65c_remove_915e3 20 = .ok (.iload_n 1, 1) := by decide +kernel
theorem dJx4a65c_remove_915e3_21 : decode cJx4a65c_remove_915e3 21 = .ok (.invokevirtual 144, 3) := by decide +kernel
theorem dJx4a65c_remove_915e3_24 : decode cJx4a65c_remove_915e3 24 = .ok (.aload_n 3, 1) := by decide +kernel
theorem dJx4a65c_remove_915e3_25 : decode cJx4a65c_remove_915e3 25 = .ok (.areturn, 1) := by decide +kernel
theorem dJx4a65c_fastRemove_b59b0_0 : decode cJx4a65c_fastRemove_b59b0 0 = .ok (.aload_n 0, 1) := by decide +kernel
theorem dJx4a65c_fastRemove_b59b0_1 : decode cJx4a65c_fastRemove_b59b0 1 = .ok (.dup, 1) := by decide +kernel
theorem dJx4a65c_fastRemove_b59b0_2 : decode cJx4a65c_fastRemove_b59b0 2 = .ok (.getfield 63, 3) := by decide +kernel
theorem dJx4a65c_fastRemove_b59b0_5 : decode cJx4a65c_fastRemove_b59b0 5 = .ok (.iconst 1, 1) := by decide +kernel
theorem dJx4a65c_fastRemove_b59b0_6 : decode cJx4a65c_fastRemove_b59b0 6 = .ok (.iadd, 1) := by decide +kernel
theorem dJx4a65c_fastRemove_b59b0_7 : decode cJx4a65c_fastRemove_b59b0 7 = .ok (.putfield 63, 3) := by decide +kernel
theorem dJx4a65c_fastRemove_b59b0_10 : decode cJx4a65c_fastRemove_b59b0 10 = .ok (.aload_n 0, 1) := by decide +kernel
theorem dJx4a65c_fastRemove_b59b0_11 : decode cJx4a65c_fastRemove_b59b0 11 = .ok (.getfield 48, 3) := by decide +kernel
theorem dJx4a65c_fastRemove_b59b0_14 : decode cJx4a65c_fastRemove_b59b0 14 = .ok (.iconst 1, 1) := by decide +kernel
theorem dJx4a65c_fastRemove_b59b0_15 : decode cJx4a65c_fastRemove_b59b0 15 = .ok (.isub, 1) := by decide +kernel
theorem dJx4a65c_fastRemove_b59b0_16 : decode cJx4a65c_fastRemove_b59b0 16 = .ok (.dup, 1) := by decide +kernel
theorem dJx4a65c_fastRemove_b59b0_17 : decode cJx4a65c_fastRemove_b59b0 17 = .ok (.istore_n 3, 1) := by decide +kernel
theorem dJx4a65c_fastRemove_b59b0_18 : decode cJx4a65c_fastRemove_b59b0 18 = .ok (.iload_n 2, 1) := by decide +kernel
theorem dJx4a65c_fastRemove_b59b0_19 : decode cJx4a65c_fastRemove_b59b0 19 = .ok (.if_icmp .le 15, 3) := by decide +kernel
theorem dJx4a65c_fastRemove_b59b0_22 : decode cJx4a65c_fastRemove_b59b0 22 = .ok (.aload_n 1, 1) := by decide +kernel
theorem dJx4a65c_fastRemove_b59b0_23 : decode cJx4a65c_fastRemove_b59b0 23 = .ok (.iload_n 2, 1) := by decide +kernel
theorem dJx4a65c_fastRemove_b59b0_24 : decode cJx4a65c_fastRemove_b59b0 24 = .ok (.iconst 1, 1) := by decide +kernel
theorem dJx4a65c_fastRemove_b59b0_25 : decode cJx4a65c_fastRemove_b59b0 25 = .ok (.iadd, 1) := by decide +kernel
theorem dJx4a65c_fastRemove_b59b0_26 : decode cJx4a65c_fastRemove_b59b0 26 = .ok (.aload_n 1, 1) := by decide +kernel
theorem dJx4a65c_fastRemove_b59b0_27 : decode cJx4a65c_fastRemove_b59b0 27 = .ok (.iload_n 2, 1) := by decide +kernel
theorem dJx4a65c_fastRemove_b59b0_28 : decode cJx4a65c_fastRemove_b59b0 28 = .ok (.iload_n 3, 1) := by decide +kernel
theorem dJx4a65c_fastRemove_b59b0_29 : decode cJx4a65c_fastRemove_b59b0 29 = .ok (.iload_n 2, 1) := by decide +kernel
theorem dJx4a65c_fastRemove_b59b0_30 : decode cJx4a65c_fastRemove_b59b0 30 = .ok (.isub, 1) := by decide +kernel
theorem dJx4a65c_fastRemove_b59b0_31 : decode cJx4a65c_fastRemove_b59b0 31 = .ok (.invokestatic 112, 3) := by decide +kernel
theorem dJx4a65c_fastRemove_b59b0_34 : decode cJx4a65c_fastRemove_b59b0 34 = .ok (.aload_n 1, 1) := by decide +kernel
theorem dJx4a65c_fastRemove_b59b0_35 : decode cJx4a65c_fastRemove_b59b0 35 = .ok (.aload_n 0, 1) := by decide +kernel
theorem dJx4a65c_fastRemove_b59b0_36 : decode cJx4a65c_fastRemove_b59b0 36 = .ok (.iload_n 3, 1) := by decide +kernel
theorem dJx4a65c_fastRemove_b59b0_37 : decode cJx4a65c_fastRemove_b59b0 37 = .ok (.dup_x1, 1) := by decide +kernel
theorem dJx4a65c_fastRemove_b59b0_38 : decode cJx4a65c_fastRemove_b59b0 38 = .ok (.putfield 48, 3) := by decide +kernel
theorem dJx4a65c_fastRemove_b59b0_41 : decode cJx4a65c_fastRemove_b59b0 41 = .ok (.aconst_null, 1) := by decide +kernel
theorem dJx4a65c_fastRemove_b59b0_42 : decode cJx4a65c_fastRemove_b59b0 42 = .ok (.aastore, 1) := by decide +kernel
theorem dJx4a65c_fastRemove_b59b0_43 : decode cJx4a65c_fastRemove_b59b0 43 = .ok (.return_, 1) := by decide +kernel
theorem dJ7_copyOf_1904c_0 : decode cJ7_copyOf_1904c 0 = .ok (.aload_n 0, 1) := by decide +kernel
theorem dJ7_copyOf_1904c_1 : decode cJ7_copyOf_1904c 1 = .ok (.iload_n 1, 1) := by decide +kernel
theorem dJ7_copyOf_1904c_2 : decode cJ7_copyOf_1904c 2 = .ok (.aload_n 0, 1) := by decide +kernel
theorem dJ7_copyOf_1904c_3 : decode cJ7_copyOf_1904c 3 = .ok (.invokevirtual 86, 3) := by decide +kernel
theorem dJ7_copyOf_1904c_6 : decode cJ7_copyOf_1904c 6 = .ok (.invokestatic 300, 3) := by decide +kernel
theorem dJ7_copyOf_1904c_9 : decode cJ7_copyOf_1904c 9 = .ok (.areturn, 1) := by decide +kernel
theorem dJ7_copyOf_6403c_0 : decode cJ7_copyOf_6403c 0 = .ok (.aload_n 2, 1) := by decide +kernel
theorem dJ7_copyOf_6403c_1 : decode cJ7_copyOf_6403c 1 = .ok (.ldc 110, 2) := by decide +kernel
theorem dJ7_copyOf_6403c_3 : decode cJ7_copyOf_6403c 3 = .ok (.if_acmp .ne 10, 3) := by decide +kernel
theorem dJ7_copyOf_6403c_6 : decode cJ7_copyOf_6403c 6 = .ok (.iload_n 1, 1) := by decide +kernel
theorem dJ7_copyOf_6403c_7 : decode cJ7_copyOf_6403c 7 = .ok (.anewarray 2, 3) := by decide +kernel
theorem dJ7_copyOf_6403c_10 : decode cJ7_copyOf_6403c 10 = .ok (.goto 14, 3) := by decide +kernel
theorem dJ7_copyOf_6403c_13 : decode cJ7_copyOf_6403c 13 = .ok (.aload_n 2, 1) := by decide +kernel
theorem dJ7_copyOf_6403c_14 : decode cJ7_copyOf_6403c 14 = .ok (.invokevirtual 90, 3) := by decide +kernel
theorem dJ7_copyOf_6403c_17 : decode cJ7_copyOf_6403c 17 = .ok (.iload_n 1, 1) := by decide +kernel
theorem dJ7_copyOf_6403c_18 : decode cJ7_copyOf_6403c 18 = .ok (.invokestatic 95, 3) := by decide +kernel
theorem dJ7_copyOf_6403c_21 : decode cJ7_copyOf_6403c 21 = .ok (.checkcast 110, 3) := by decide +kernel
theorem dJ7_copyOf_6403c_24 : decode cJ7_copyOf_6403c 24 = .ok (.astore_n 3, 1) := by decide +kernel
theorem dJ7_copyOf_6403c_25 : decode cJ7_copyOf_6403c 25 = .ok (.aload_n 0, 1) := by decide +kernel
theorem dJ7_copyOf_6403c_26 : decode cJ7_copyOf_6403c 26 = .ok (.iconst 0, 1) := by decide +kernel
theorem dJ7_copyOf_6403c_27 : decode cJ7_copyOf_6403c 27 = .ok (.aload_n 3, 1) := by decide +kernel
theorem dJ7_copyOf_6403c_28 : decode cJ7_copyOf_6403c 28 = .ok (.iconst 0, 1) := by decide +kernel
theorem dJ7_copyOf_6403c_29 : decode cJ7_copyOf_6403c 29 = .ok (.aload_n 0, 1) := by decide +kernel
theorem dJ7_copyOf_6403c_30 : decode cJ7_copyOf_6403c 30 = .ok (.arraylength, 1) := by decide +kernel
theorem dJ7_copyOf_6403c_31 : decode cJ7_copyOf_6403c 31 = .ok (.iload_n 1, 1) := by decide +kernel
theorem dJ7_copyOf_6403c_32 : decode cJ7_copyOf_6403c 32 = .ok (.invokestatic 304, 3) := by decide +kernel
theorem dJ7_copyOf_6403c_35 : decode cJ7_copyOf_6403c 35 = .ok (.invokestatic 150, 3) := by decide +kernel
theorem dJ7_copyOf_6403c_38 : decode cJ7_copyOf_6403c 38 = .ok (.aload_n 3, 1) := by decide +kernel
theorem dJ7_copyOf_6403c_39 : decode cJ7_copyOf_6403c 39 = .ok (.areturn, 1) := by decide +kernel
theorem dJ15_checkIndex_7cf53_0 : decode cJ15_checkIndex_7cf53 0 = .ok (.iload_n 0, 1) := by decide +kernel
theorem dJ15_checkIndex_7cf53_1 : decode cJ15_checkIndex_7cf53 1 = .ok (.iload_n 1, 1) := by decide +kernel
theorem dJ15_checkIndex_7cf53_2 : decode cJ15_checkIndex_7cf53 2 = .ok (.aconst_null, 1) := by decide +kernel
theorem dJ15_checkIndex_7cf53_3 : decode cJ15_checkIndex_7cf53 3 = .ok (.invokestatic 105, 3) := by decide +kernel
theorem dJ15_checkIndex_7cf53_6 : decode cJ15_checkIndex_7cf53 6 = .ok (.ireturn, 1) := by decide +kernel
theorem dJ8_newLength_cabcc_0 : decode cJ8_newLength_cabcc 0 = .ok (.iload_n 0, 1) := by decide +kernel
theorem dJ8_newLength_cabcc_1 : decode cJ8_newLength_cabcc 1 = .ok (.iload_n 1, 1) := by decide +kernel
theorem dJ8_newLength_cabcc_2 : decode cJ8_newLength_cabcc 2 = .ok (.iload_n 2, 1) := by decide +kernel
theorem dJ8_newLength_cabcc_3 : decode cJ8_newLength_cabcc 3 = .ok (.invokestatic 194, 3) := by decide +kernel
theorem dJ8_newLength_cabcc_6 : decode cJ8_newLength_cabcc 6 = .ok (.iadd, 1) := by decide +kernel
theorem dJ8_newLength_cabcc_7 : decode cJ8_newLength_cabcc 7 = .ok (.istore_n 3, 1) := by decide +kernel
theorem dJ8_newLength_cabcc_8 : decode cJ8_newLength_cabcc 8 = .ok (.iconst 0, 1) := by decide +kernel
theorem dJ8_newLength_cabcc_9 : decode cJ8_newLength_cabcc 9 = .ok (.iload_n 3, 1) := by decide +kernel
theorem dJ8_newLength_cabcc_10 : decode cJ8_newLength_cabcc 10 = .ok (.if_icmp .ge 11, 3) := by decide +kernel
theorem dJ8_newLength_cabcc_13 : decode cJ8_newLength_cabcc 13 = .ok (.iload_n 3, 1) := by decide +kernel
theorem dJ8_newLength_cabcc_14 : decode cJ8_newLength_cabcc 14 = .ok (.ldc 200, 2) := by decide +kernel
theorem dJ8_newLength_cabcc_16 : decode cJ8_newLength_cabcc 16 = .ok (.if_icmp .gt 5, 3) := by decide +kernel
theorem dJ8_newLength_cabcc_19 : decode cJ8_newLength_cabcc 19 = .ok (.iload_n 3, 1) := by decide +kernel
theorem dJ8_newLength_cabcc_20 : decode cJ8_newLength_cabcc 20 = .ok (.ireturn, 1) := by decide +kernel
theorem dJ8_newLength_cabcc_21 : decode cJ8_newLength_cabcc 21 = .ok (.iload_n 0, 1) := by decide +kernel
theorem dJ8_newLength_cabcc_22 : decode cJ8_newLength_cabcc 22 = .ok (.iload_n 1, 1) := by decide +kernel
theorem dJ8_newLength_cabcc_23 : decode cJ8_newLength_cabcc 23 = .ok (.invokestatic 201, 3) := by decide +kernel
theorem dJ8_newLength_cabcc_26 : decode cJ8_newLength_cabcc 26 = .ok (.ireturn, 1) := by decide +kernel
theorem dJ8_hugeLength_7cf53_0 : decode cJ8_hugeLength_7cf53 0 = .ok (.iload_n 0, 1) := by decide +kernel
theorem dJ8_hugeLength_7cf53_1 : decode cJ8_hugeLength_7cf53 1 = .ok (.iload_n 1, 1) := by decide +kernel
theorem dJ8_hugeLength_7cf53_2 : decode cJ8_hugeLength_7cf53 2 = .ok (.iadd, 1) := by decide +kernel
theorem dJ8_hugeLength_7cf53_3 : decode cJ8_hugeLength_7cf53 3 = .ok (.istore_n 2, 1) := by decide +kernel
theorem dJ8_hugeLength_7cf53_4 : decode cJ8_hugeLength_7cf53 4 = .ok (.iload_n 2, 1) := by decide +kernel
theorem dJ8_hugeLength_7cf53_5 : decode cJ8_hugeLength_7cf53 5 = .ok (.ifCond .ge 44, 3) := by decide +kernel
theorem dJ8_hugeLength_7cf53_8 : decode cJ8_hugeLength_7cf53 8 = .ok (.new 204, 3) := by decide +kernel
theorem dJ8_hugeLength_7cf53_11 : decode cJ8_hugeLength_7cf53 11 = .ok (.dup, 1) := by decide +kernel
theorem dJ8_hugeLength_7cf53_12 : decode cJ8_hugeLength_7cf53 12 = .ok (.new 89, 3) := by decide +kernel
theorem dJ8_hugeLength_7cf53_15 : decode cJ8_hugeLength_7cf53 15 = .ok (.dup, 1) := by decide +kernel
theorem dJ8_hugeLength_7cf53_16 : decode cJ8_hugeLength_7cf53 16 = .ok (.invokespecial 91, 3) := by decide +kernel
theorem dJ8_hugeLength_7cf53_19 : decode cJ8_hugeLength_7cf53 19 = .ok (.ldc 206, 2) := by decide +kernel
theorem dJ8_hugeLength_7cf53_21 : decode cJ8_hugeLength_7cf53 21 = .ok (.invokevirtual 94, 3) := by decide +kernel
theorem dJ8_hugeLength_7cf53_24 : decode cJ8_hugeLength_7cf53 24 = .ok (.iload_n 0, 1) := by decide +kernel
theorem dJ8_hugeLength_7cf53_25 : decode cJ8_hugeLength_7cf53 25 = .ok (.invokevirtual 98, 3) := by decide +kernel
theorem dJ8_hugeLength_7cf53_28 : decode cJ8_hugeLength_7cf53 28 = .ok (.ldc 208, 2) := by decide +kernel
theorem dJ8_hugeLength_7cf53_30 : decode cJ8_hugeLength_7cf53 30 = .ok (.invokevirtual 94, 3) := by decide +kernel
theorem dJ8_hugeLength_7cf53_33 : decode cJ8_hugeLength_7cf53 33 = .ok (.iload_n 1, 1) := by decide +kernel
theorem dJ8_hugeLength_7cf53_34 : decode cJ8_hugeLength_7cf53 34 = .ok (.invokevirtual 98, 3) := by decide +kernel
theorem dJ8_hugeLength_7cf53_37 : decode cJ8_hugeLength_7cf53 37 = .ok (.ldc 210, 2) := by decide +kernel
theorem dJ8_hugeLength_7cf53_39 : decode cJ8_hugeLength_7cf53 39 = .ok (.invokevirtual 94, 3) := by decide +kernel
theorem dJ8_hugeLength_7cf53_42 : decode cJ8_hugeLength_7cf53 42 = .ok (.invokevirtual 101, 3) := by decide +kernel
theorem dJ8_hugeLength_7cf53_45 : decode cJ8_hugeLength_7cf53 45 = .ok (.invokespecial 212, 3) := by decide +kernel
theorem dJ8_hugeLength_7cf53_48 : decode cJ8_hugeLength_7cf53 48 = .ok (.athrow, 1) := by decide +kernel
theorem dJ8_hugeLength_7cf53_49 : decode cJ8_hugeLength_7cf53 49 = .ok (.iload_n 2, 1) := by decide +kernel
theorem dJ8_hugeLength_7cf53_50 : decode cJ8_hugeLength_7cf53 50 = .ok (.ldc 200, 2) := by decide +kernel
theorem dJ8_hugeLength_7cf53_52 : decode cJ8_hugeLength_7cf53 52 = .ok (.if_icmp .gt 6, 3) := by decide +kernel
theorem dJ8_hugeLength_7cf53_55 : decode cJ8_hugeLength_7cf53 55 = .ok (.ldc 200, 2) := by decide +kernel
theorem dJ8_hugeLength_7cf53_57 : decode cJ8_hugeLength_7cf53 57 = .ok (.ireturn, 1) := by decide +kernel
theorem dJ8_hugeLength_7cf53_58 : decode cJ8_hugeLength_7cf53 58 = .ok (.iload_n 2, 1) := by decide +kernel
theorem dJ8_hugeLength_7cf53_59 : decode cJ8_hugeLength_7cf53 59 = .ok (.ireturn, 1) := by decide +kernel
theorem dJ3_checkIndex_8e157_0 : decode cJ3_checkIndex_8e157 0 = .ok (.iload_n 0, 1) := by decide +kernel
theorem dJ3_checkIndex_8e157_1 : decode cJ3_checkIndex_8e157 1 = .ok (.ifCond .lt 8, 3) := by decide +kernel
theorem dJ3_checkIndex_8e157_4 : decode cJ3_checkIndex_8e157 4 = .ok (.iload_n 0, 1) := by decide +kernel
theorem dJ3_checkIndex_8e157_5 : decode cJ3_checkIndex_8e157 5 = .ok (.iload_n 1, 1) := by decide +kernel
theorem dJ3_checkIndex_8e157_6 : decode cJ3_checkIndex_8e157 6 = .ok (.if_icmp .lt 10, 3) := by decide +kernel
theorem dJ3_checkIndex_8e157_9 : decode cJ3_checkIndex_8e157 9 = .ok (.aload_n 2, 1) := by decide +kernel
theorem dJ3_checkIndex_8e157_10 : decode cJ3_checkIndex_8e157 10 = .ok (.iload_n 0, 1) := by decide +kernel
theorem dJ3_checkIndex_8e157_11 : decode cJ3_checkIndex_8e157 11 = .ok (.iload_n 1, 1) := by decide +kernel
theorem dJ3_checkIndex_8e157_12 : decode cJ3_checkIndex_8e157 12 = .ok (.invokestatic 95, 3) := by decide +kernel
theorem dJ3_checkIndex_8e157_15 : decode cJ3_checkIndex_8e157 15 = .ok (.athrow, 1) := by decide +kernel
theorem dJ3_checkIndex_8e157_16 : decode cJ3_checkIndex_8e157 16 = .ok (.iload_n 0, 1) := by decide +kernel
theorem dJ3_checkIndex_8e157_17 : decode cJ3_checkIndex_8e157 17 = .ok (.ireturn, 1) := by decide +kernel
theorem dL_cell_0 : decode cL_cell 0 = .ok (.iload_n 1, 1) := by decide +kernel
theorem dL_cell_1 : decode cL_cell 1 = .ok (.aload_n 0, 1) := by decide +kernel
theorem dL_cell_2 : decode cL_cell 2 = .ok (.arraylength, 1) := by decide +kernel
theorem dL_cell_3 : decode cL_cell 3 = .ok (.if_icmp .ge 9, 3) := by decide +kernel
theorem dL_cell_6 : decode cL_cell 6 = .ok (.aload_n 0, 1) := by decide +kernel
theorem dL_cell_7 : decode cL_cell 7 = .ok (.iload_n 1, 1) := by decide +kernel
theorem dL_cell_8 : decode cL_cell 8 = .ok (.iaload, 1) := by decide +kernel
theorem dL_cell_9 : decode cL_cell 9 = .ok (.goto 13, 3) := by decide +kernel
theorem dL_cell_12 : decode cL_cell 12 = .ok (.ldc 7, 2) := by decide +kernel
theorem dL_cell_14 : decode cL_cell 14 = .ok (.iload_n 1, 1) := by decide +kernel
theorem dL_cell_15 : decode cL_cell 15 = .ok (.bipush 39, 2) := by decide +kernel
theorem dL_cell_17 : decode cL_cell 17 = .ok (.iadd, 1) := by decide +kernel
theorem dL_cell_18 : decode cL_cell 18 = .ok (.imul, 1) := by decide +kernel
theorem dL_cell_19 : decode cL_cell 19 = .ok (.ldc 8, 2) := by decide +kernel
theorem dL_cell_21 : decode cL_cell 21 = .ok (.iadd, 1) := by decide +kernel
theorem dL_cell_22 : decode cL_cell 22 = .ok (.ireturn, 1) := by decide +kernel
theorem dL_low_0 : decode cL_low 0 = .ok (.iload_n 0, 1) := by decide +kernel
theorem dL_low_1 : decode cL_low 1 = .ok (.ldc 9, 2) := by decide +kernel
theorem dL_low_3 : decode cL_low 3 = .ok (.iand, 1) := by decide +kernel
theorem dL_low_4 : decode cL_low 4 = .ok (.iload_n 1, 1) := by decide +kernel
theorem dL_low_5 : decode cL_low 5 = .ok (.irem, 1) := by decide +kernel
theorem dL_low_6 : decode cL_low 6 = .ok (.ireturn, 1) := by decide +kernel
theorem dL_calls_0 : decode cL_calls 0 = .ok (.iload_n 1, 1) := by decide +kernel
theorem dL_calls_1 : decode cL_calls 1 = .ok (.ifCond .ne 12, 3) := by decide +kernel
theorem dL_calls_4 : decode cL_calls 4 = .ok (.aload_n 0, 1) := by decide +kernel
theorem dL_calls_5 : decode cL_calls 5 = .ok (.iload_n 2, 1) := by decide +kernel
theorem dL_calls_6 : decode cL_calls 6 = .ok (.iload_n 3, 1) := by decide +kernel
theorem dL_calls_7 : decode cL_calls 7 = .ok (.invokevirtual 10, 3) := by decide +kernel
theorem dL_calls_10 : decode cL_calls 10 = .ok (.goto 30, 3) := by decide +kernel
theorem dL_calls_13 : decode cL_calls 13 = .ok (.iload_n 1, 1) := by decide +kernel
theorem dL_calls_14 : decode cL_calls 14 = .ok (.iconst 1, 1) := by decide +kernel
theorem dL_calls_15 : decode cL_calls 15 = .ok (.if_icmp .ne 10, 3) := by decide +kernel
theorem dL_calls_18 : decode cL_calls 18 = .ok (.aload_n 0, 1) := by decide +kernel
theorem dL_calls_19 : decode cL_calls 19 = .ok (.invokevirtual 16, 3) := by decide +kernel
theorem dL_calls_22 : decode cL_calls 22 = .ok (.goto 18, 3) := by decide +kernel
theorem dL_calls_25 : decode cL_calls 25 = .ok (.aload_n 0, 1) := by decide +kernel
theorem dL_calls_26 : decode cL_calls 26 = .ok (.iload_n 2, 1) := by decide +kernel
theorem dL_calls_27 : decode cL_calls 27 = .ok (.iload_n 3, 1) := by decide +kernel
theorem dL_calls_28 : decode cL_calls 28 = .ok (.iconst 1, 1) := by decide +kernel
theorem dL_calls_29 : decode cL_calls 29 = .ok (.if_icmp .ne 7, 3) := by decide +kernel
theorem dL_calls_32 : decode cL_calls 32 = .ok (.iconst 1, 1) := by decide +kernel
theorem dL_calls_33 : decode cL_calls 33 = .ok (.goto 4, 3) := by decide +kernel
theorem dL_calls_36 : decode cL_calls 36 = .ok (.iconst 0, 1) := by decide +kernel
theorem dL_calls_37 : decode cL_calls 37 = .ok (.invokevirtual 20, 3) := by decide +kernel
theorem dL_calls_40 : decode cL_calls 40 = .ok (.ireturn, 1) := by decide +kernel
theorem dL_calls_41 : decode cL_calls 41 = .ok (.astore 4, 2) := by decide +kernel
theorem dL_calls_43 : decode cL_calls 43 = .ok (.bipush (-3), 2) := by decide +kernel
theorem dL_calls_45 : decode cL_calls 45 = .ok (.ireturn, 1) := by decide +kernel
theorem dL_way_0 : decode cL_way 0 = .ok (.iload_n 0, 1) := by decide +kernel
theorem dL_way_1 : decode cL_way 1 = .ok (.iload_n 1, 1) := by decide +kernel
theorem dL_way_2 : decode cL_way 2 = .ok (.if_icmp .ge 9, 3) := by decide +kernel
theorem dL_way_5 : decode cL_way 5 = .ok (.iload_n 1, 1) := by decide +kernel
theorem dL_way_6 : decode cL_way 6 = .ok (.iload_n 0, 1) := by decide +kernel
theorem dL_way_7 : decode cL_way 7 = .ok (.isub, 1) := by decide +kernel
theorem dL_way_8 : decode cL_way 8 = .ok (.goto 6, 3) := by decide +kernel
theorem dL_way_11 : decode cL_way 11 = .ok (.iload_n 0, 1) := by decide +kernel
theorem dL_way_12 : decode cL_way 12 = .ok (.iload_n 1, 1) := by decide +kernel
theorem dL_way_13 : decode cL_way 13 = .ok (.isub, 1) := by decide +kernel
theorem dL_way_14 : decode cL_way 14 = .ok (.istore_n 2, 1) := by decide +kernel
theorem dL_way_15 : decode cL_way 15 = .ok (.iload_n 2, 1) := by decide +kernel
theorem dL_way_16 : decode cL_way 16 = .ok (.iconst 4, 1) := by decide +kernel
theorem dL_way_17 : decode cL_way 17 = .ok (.if_icmp .le 10, 3) := by decide +kernel
theorem dL_way_20 : decode cL_way 20 = .ok (.bipush 8, 2) := by decide +kernel
theorem dL_way_22 : decode cL_way 22 = .ok (.iload_n 2, 1) := by decide +kernel
theorem dL_way_23 : decode cL_way 23 = .ok (.isub, 1) := by decide +kernel
theorem dL_way_24 : decode cL_way 24 = .ok (.goto 4, 3) := by decide +kernel
theorem dL_way_27 : decode cL_way 27 = .ok (.iload_n 2, 1) := by decide +kernel
theorem dL_way_28 : decode cL_way 28 = .ok (.ireturn, 1) := by decide +kernel
theorem dL_step_0 : decode cL_step 0 = .ok (.iload_n 0, 1) := by decide +kernel
theorem dL_step_1 : decode cL_step 1 = .ok (.iconst 1, 1) := by decide +kernel
theorem dL_step_2 : decode cL_step 2 = .ok (.iadd, 1) := by decide +kernel
theorem dL_step_3 : decode cL_step 3 = .ok (.bipush 8, 2) := by decide +kernel
theorem dL_step_5 : decode cL_step 5 = .ok (.irem, 1) := by decide +kernel
theorem dL_step_6 : decode cL_step 6 = .ok (.istore_n 2, 1) := by decide +kernel
theorem dL_step_7 : decode cL_step 7 = .ok (.iload_n 0, 1) := by decide +kernel
theorem dL_step_8 : decode cL_step 8 = .ok (.iload_n 1, 1) := by decide +kernel
theorem dL_step_9 : decode cL_step 9 = .ok (.if_icmp .ne 7, 3) := by decide +kernel
theorem dL_step_12 : decode cL_step 12 = .ok (.iload_n 0, 1) := by decide +kernel
theorem dL_step_13 : decode cL_step 13 = .ok (.goto 27, 3) := by decide +kernel
theorem dL_step_16 : decode cL_step 16 = .ok (.iload_n 2, 1) := by decide +kernel
theorem dL_step_17 : decode cL_step 17 = .ok (.iload_n 1, 1) := by decide +kernel
theorem dL_step_18 : decode cL_step 18 = .ok (.invokestatic 26, 3) := by decide +kernel
theorem dL_step_21 : decode cL_step 21 = .ok (.iload_n 0, 1) := by decide +kernel
theorem dL_step_22 : decode cL_step 22 = .ok (.iload_n 1, 1) := by decide +kernel
theorem dL_step_23 : decode cL_step 23 = .ok (.invokestatic 26, 3) := by decide +kernel
theorem dL_step_26 : decode cL_step 26 = .ok (.if_icmp .ge 7, 3) := by decide +kernel
theorem dL_step_29 : decode cL_step 29 = .ok (.iload_n 2, 1) := by decide +kernel
theorem dL_step_30 : decode cL_step 30 = .ok (.goto 10, 3) := by decide +kernel
theorem dL_step_33 : decode cL_step 33 = .ok (.iload_n 0, 1) := by decide +kernel
theorem dL_step_34 : decode cL_step 34 = .ok (.bipush 7, 2) := by decide +kernel
theorem dL_step_36 : decode cL_step 36 = .ok (.iadd, 1) := by decide +kernel
theorem dL_step_37 : decode cL_step 37 = .ok (.bipush 8, 2) := by decide +kernel
theorem dL_step_39 : decode cL_step 39 = .ok (.irem, 1) := by decide +kernel
theorem dL_step_40 : decode cL_step 40 = .ok (.ireturn, 1) := by decide +kernel
theorem dL_days_0 : decode cL_days 0 = .ok (.iconst 0, 1) := by decide +kernel
theorem dL_days_1 : decode cL_days 1 = .ok (.istore_n 2, 1) := by decide +kernel
theorem dL_days_2 : decode cL_days 2 = .ok (.bipush 31, 2) := by decide +kernel
theorem dL_days_4 : decode cL_days 4 = .ok (.istore_n 3, 1) := by decide +kernel
theorem dL_days_5 : decode cL_days 5 = .ok (.iconst 0, 1) := by decide +kernel
theorem dL_days_6 : decode cL_days 6 = .ok (.istore 4, 2) := by decide +kernel
theorem dL_days_8 : decode cL_days 8 = .ok (.iconst 3, 1) := by decide +kernel
theorem dL_days_9 : decode cL_days 9 = .ok (.istore 5, 2) := by decide +kernel
theorem dL_days_11 : decode cL_days 11 = .ok (.iload 5, 2) := by decide +kernel
theorem dL_days_13 : decode cL_days 13 = .ok (.bipush 6, 2) := by decide +kernel
theorem dL_days_15 : decode cL_days 15 = .ok (.if_icmp .ge 54, 3) := by decide +kernel
theorem dL_days_18 : decode cL_days 18 = .ok (.aload_n 1, 1) := by decide +kernel
theorem dL_days_19 : decode cL_days 19 = .ok (.bipush 6, 2) := by decide +kernel
theorem dL_days_21 : decode cL_days 21 = .ok (.iload_n 0, 1) := by decide +kernel
theorem dL_days_22 : decode cL_days 22 = .ok (.imul, 1) := by decide +kernel
theorem dL_days_23 : decode cL_days 23 = .ok (.iload 5, 2) := by decide +kernel
theorem dL_days_25 : decode cL_days 25 = .ok (.iadd, 1) := by decide +kernel
theorem dL_days_26 : decode cL_days 26 = .ok (.iaload, 1) := by decide +kernel
theorem dL_days_27 : decode cL_days 27 = .ok (.istore 6, 2) := by decide +kernel
theorem dL_days_29 : decode cL_days 29 = .ok (.iload_n 2, 1) := by decide +kernel
theorem dL_days_30 : decode cL_days 30 = .ok (.iload 6, 2) := by decide +kernel
theorem dL_days_32 : decode cL_days 32 = .ok (.iadd, 1) := by decide +kernel
theorem dL_days_33 : decode cL_days 33 = .ok (.istore_n 2, 1) := by decide +kernel
theorem dL_days_34 : decode cL_days 34 = .ok (.iload 6, 2) := by decide +kernel
theorem dL_days_36 : decode cL_days 36 = .ok (.iload_n 3, 1) := by decide +kernel
theorem dL_days_37 : decode cL_days 37 = .ok (.if_icmp .ge 8, 3) := by decide +kernel
theorem dL_days_40 : decode cL_days 40 = .ok (.iload 6, 2) := by decide +kernel
theorem dL_days_42 : decode cL_days 42 = .ok (.goto 4, 3) := by decide +kernel
theorem dL_days_45 : decode cL_days 45 = .ok (.iload_n 3, 1) := by decide +kernel
theorem dL_days_46 : decode cL_days 46 = .ok (.istore_n 3, 1) := by decide +kernel
theorem dL_days_47 : decode cL_days 47 = .ok (.iload 6, 2) := by decide +kernel
theorem dL_days_49 : decode cL_days 49 = .ok (.iload 4, 2) := by decide +kernel
theorem dL_days_51 : decode cL_days 51 = .ok (.if_icmp .le 8, 3) := by decide +kernel
theorem dL_days_54 : decode cL_days 54 = .ok (.iload 6, 2) := by decide +kernel
theorem dL_days_56 : decode cL_days 56 = .ok (.goto 5, 3) := by decide +kernel
theorem dL_days_59 : decode cL_days 59 = .ok (.iload 4, 2) := by decide +kernel
theorem dL_days_61 : decode cL_days 61 = .ok (.istore 4, 2) := by decide +kernel
theorem dL_days_63 : decode cL_days 63 = .ok (.iinc 5 1, 3) := by decide +kernel
theorem dL_days_66 : decode cL_days 66 = .ok (.goto (-55), 3) := by decide +kernel
theorem dL_days_69 : decode cL_days 69 = .ok (.iload_n 2, 1) := by decide +kernel
theorem dL_days_70 : decode cL_days 70 = .ok (.iload_n 3, 1) := by decide +kernel
theorem dL_days_71 : decode cL_days 71 = .ok (.isub, 1) := by decide +kernel
theorem dL_days_72 : decode cL_days 72 = .ok (.iload 4, 2) := by decide +kernel
theorem dL_days_74 : decode cL_days 74 = .ok (.isub, 1) := by decide +kernel
theorem dL_days_75 : decode cL_days 75 = .ok (.ireturn, 1) := by decide +kernel
theorem dL_sends_0 : decode cL_sends 0 = .ok (.iconst (-1), 1) := by decide +kernel
theorem dL_sends_1 : decode cL_sends 1 = .ok (.istore_n 3, 1) := by decide +kernel
theorem dL_sends_2 : decode cL_sends 2 = .ok (.iconst (-1), 1) := by decide +kernel
theorem dL_sends_3 : decode cL_sends 3 = .ok (.istore 4, 2) := by decide +kernel
theorem dL_sends_5 : decode cL_sends 5 = .ok (.iconst 3, 1) := by decide +kernel
theorem dL_sends_6 : decode cL_sends 6 = .ok (.istore 5, 2) := by decide +kernel
theorem dL_sends_8 : decode cL_sends 8 = .ok (.iload 5, 2) := by decide +kernel
theorem dL_sends_10 : decode cL_sends 10 = .ok (.ifCond .lt 93, 3) := by decide +kernel
theorem dL_sends_13 : decode cL_sends 13 = .ok (.sipush 1000, 3) := by decide +kernel
theorem dL_sends_16 : decode cL_sends 16 = .ok (.bipush 8, 2) := by decide +kernel
theorem dL_sends_18 : decode cL_sends 18 = .ok (.aload_n 1, 1) := by decide +kernel
theorem dL_sends_19 : decode cL_sends 19 = .ok (.iconst 3, 1) := by decide +kernel
theorem dL_sends_20 : decode cL_sends 20 = .ok (.iload 5, 2) := by decide +kernel
theorem dL_sends_22 : decode cL_sends 22 = .ok (.imul, 1) := by decide +kernel
theorem dL_sends_23 : decode cL_sends 23 = .ok (.iaload, 1) := by decide +kernel
theorem dL_sends_24 : decode cL_sends 24 = .ok (.aload_n 2, 1) := by decide +kernel
theorem dL_sends_25 : decode cL_sends 25 = .ok (.bipush 6, 2) := by decide +kernel
theorem dL_sends_27 : decode cL_sends 27 = .ok (.iload_n 0, 1) := by decide +kernel
theorem dL_sends_28 : decode cL_sends 28 = .ok (.imul, 1) := by decide +kernel
theorem dL_sends_29 : decode cL_sends 29 = .ok (.iaload, 1) := by decide +kernel
theorem dL_sends_30 : decode cL_sends 30 = .ok (.invokestatic 26, 3) := by decide +kernel
theorem dL_sends_33 : decode cL_sends 33 = .ok (.isub, 1) := by decide +kernel
theorem dL_sends_34 : decode cL_sends 34 = .ok (.imul, 1) := by decide +kernel
theorem dL_sends_35 : decode cL_sends 35 = .ok (.aload_n 1, 1) := by decide +kernel
theorem dL_sends_36 : decode cL_sends 36 = .ok (.iconst 3, 1) := by decide +kernel
theorem dL_sends_37 : decode cL_sends 37 = .ok (.iload 5, 2) := by decide +kernel
theorem dL_sends_39 : decode cL_sends 39 = .ok (.imul, 1) := by decide +kernel
theorem dL_sends_40 : decode cL_sends 40 = .ok (.iconst 1, 1) := by decide +kernel
theorem dL_sends_41 : decode cL_sends 41 = .ok (.iadd, 1) := by decide +kernel
theorem dL_sends_42 : decode cL_sends 42 = .ok (.iaload, 1) := by decide +kernel
theorem dL_sends_43 : decode cL_sends 43 = .ok (.iadd, 1) := by decide +kernel
theorem dL_sends_44 : decode cL_sends 44 = .ok (.istore 6, 2) := by decide +kernel
theorem dL_sends_46 : decode cL_sends 46 = .ok (.aload_n 1, 1) := by decide +kernel
theorem dL_sends_47 : decode cL_sends 47 = .ok (.iconst 3, 1) := by decide +kernel
theorem dL_sends_48 : decode cL_sends 48 = .ok (.iload 5, 2) := by decide +kernel
theorem dL_sends_50 : decode cL_sends 50 = .ok (.imul, 1) := by decide +kernel
theorem dL_sends_51 : decode cL_sends 51 = .ok (.iconst 2, 1) := by decide +kernel
theorem dL_sends_52 : decode cL_sends 52 = .ok (.iadd, 1) := by decide +kernel
theorem dL_sends_53 : decode cL_sends 53 = .ok (.iaload, 1) := by decide +kernel
theorem dL_sends_54 : decode cL_sends 54 = .ok (.ifCond .ge 14, 3) := by decide +kernel
theorem dL_sends_57 : decode cL_sends 57 = .ok (.iload 6, 2) := by decide +kernel
theorem dL_sends_59 : decode cL_sends 59 = .ok (.iload 4, 2) := by decide +kernel
theorem dL_sends_61 : decode cL_sends 61 = .ok (.if_icmp .lt 7, 3) := by decide +kernel
theorem dL_sends_64 : decode cL_sends 64 = .ok (.iconst 1, 1) := by decide +kernel
theorem dL_sends_65 : decode cL_sends 65 = .ok (.goto 4, 3) := by decide +kernel
theorem dL_sends_68 : decode cL_sends 68 = .ok (.iconst 0, 1) := by decide +kernel
theorem dL_sends_69 : decode cL_sends 69 = .ok (.istore 7, 2) := by decide +kernel
theorem dL_sends_71 : decode cL_sends 71 = .ok (.iload 7, 2) := by decide +kernel
theorem dL_sends_73 : decode cL_sends 73 = .ok (.ifCond .eq 8, 3) := by decide +kernel
theorem dL_sends_76 : decode cL_sends 76 = .ok (.iload 5, 2) := by decide +kernel
theorem dL_sends_78 : decode cL_sends 78 = .ok (.goto 4, 3) := by decide +kernel
theorem dL_sends_81 : decode cL_sends 81 = .ok (.iload_n 3, 1) := by decide +kernel
theorem dL_sends_82 : decode cL_sends 82 = .ok (.istore_n 3, 1) := by decide +kernel
theorem dL_sends_83 : decode cL_sends 83 = .ok (.iload 7, 2) := by decide +kernel
theorem dL_sends_85 : decode cL_sends 85 = .ok (.ifCond .eq 8, 3) := by decide +kernel
theorem dL_sends_88 : decode cL_sends 88 = .ok (.iload 6, 2) := by decide +kernel
theorem dL_sends_90 : decode cL_sends 90 = .ok (.goto 5, 3) := by decide +kernel
theorem dL_sends_93 : decode cL_sends 93 = .ok (.iload 4, 2) := by decide +kernel
theorem dL_sends_95 : decode cL_sends 95 = .ok (.istore 4, 2) := by decide +kernel
theorem dL_sends_97 : decode cL_sends 97 = .ok (.iinc 5 (-1), 3) := by decide +kernel
theorem dL_sends_100 : decode cL_sends 100 = .ok (.goto (-92), 3) := by decide +kernel
theorem dL_sends_103 : decode cL_sends 103 = .ok (.iload_n 3, 1) := by decide +kernel
theorem dL_sends_104 : decode cL_sends 104 = .ok (.ifCond .lt 29, 3) := by decide +kernel
theorem dL_sends_107 : decode cL_sends 107 = .ok (.aload_n 1, 1) := by decide +kernel
theorem dL_sends_108 : decode cL_sends 108 = .ok (.iconst 3, 1) := by decide +kernel
theorem dL_sends_109 : decode cL_sends 109 = .ok (.iload_n 3, 1) := by decide +kernel
theorem dL_sends_110 : decode cL_sends 110 = .ok (.imul, 1) := by decide +kernel
theorem dL_sends_111 : decode cL_sends 111 = .ok (.iconst 2, 1) := by decide +kernel
theorem dL_sends_112 : decode cL_sends 112 = .ok (.iadd, 1) := by decide +kernel
theorem dL_sends_113 : decode cL_sends 113 = .ok (.iload_n 0, 1) := by decide +kernel
theorem dL_sends_114 : decode cL_sends 114 = .ok (.iastore, 1) := by decide +kernel
theorem dL_sends_115 : decode cL_sends 115 = .ok (.aload_n 2, 1) := by decide +kernel
theorem dL_sends_116 : decode cL_sends 116 = .ok (.bipush 6, 2) := by decide +kernel
theorem dL_sends_118 : decode cL_sends 118 = .ok (.iload_n 0, 1) := by decide +kernel
theorem dL_sends_119 : decode cL_sends 119 = .ok (.imul, 1) := by decide +kernel
theorem dL_sends_120 : decode cL_sends 120 = .ok (.iconst 2, 1) := by decide +kernel
theorem dL_sends_121 : decode cL_sends 121 = .ok (.iadd, 1) := by decide +kernel
theorem dL_sends_122 : decode cL_sends 122 = .ok (.iconst 1, 1) := by decide +kernel
theorem dL_sends_123 : decode cL_sends 123 = .ok (.iastore, 1) := by decide +kernel
theorem dL_sends_124 : decode cL_sends 124 = .ok (.aload_n 2, 1) := by decide +kernel
theorem dL_sends_125 : decode cL_sends 125 = .ok (.bipush 6, 2) := by decide +kernel
theorem dL_sends_127 : decode cL_sends 127 = .ok (.iload_n 0, 1) := by decide +kernel
theorem dL_sends_128 : decode cL_sends 128 = .ok (.imul, 1) := by decide +kernel
theorem dL_sends_129 : decode cL_sends 129 = .ok (.iconst 3, 1) := by decide +kernel
theorem dL_sends_130 : decode cL_sends 130 = .ok (.iadd, 1) := by decide +kernel
theorem dL_sends_131 : decode cL_sends 131 = .ok (.iload_n 3, 1) := by decide +kernel
theorem dL_sends_132 : decode cL_sends 132 = .ok (.iastore, 1) := by decide +kernel
theorem dL_sends_133 : decode cL_sends 133 = .ok (.return_, 1) := by decide +kernel
theorem dL_shows_0 : decode cL_shows 0 = .ok (.iconst 0, 1) := by decide +kernel
theorem dL_shows_1 : decode cL_shows 1 = .ok (.istore 6, 2) := by decide +kernel
theorem dL_shows_3 : decode cL_shows 3 = .ok (.iconst 0, 1) := by decide +kernel
theorem dL_shows_4 : decode cL_shows 4 = .ok (.istore 7, 2) := by decide +kernel
theorem dL_shows_6 : decode cL_shows 6 = .ok (.iload 7, 2) := by decide +kernel
theorem dL_shows_8 : decode cL_shows 8 = .ok (.aload 5, 2) := by decide +kernel
theorem dL_shows_10 : decode cL_shows 10 = .ok (.iconst 3, 1) := by decide +kernel
theorem dL_shows_11 : decode cL_shows 11 = .ok (.iaload, 1) := by decide +kernel
theorem dL_shows_12 : decode cL_shows 12 = .ok (.if_icmp .ge 55, 3) := by decide +kernel
theorem dL_shows_15 : decode cL_shows 15 = .ok (.iload 6, 2) := by decide +kernel
theorem dL_shows_17 : decode cL_shows 17 = .ok (.ifCond .ne 37, 3) := by decide +kernel
theorem dL_shows_20 : decode cL_shows 20 = .ok (.iload_n 2, 1) := by decide +kernel
theorem dL_shows_21 : decode cL_shows 21 = .ok (.ifCond .lt 37, 3) := by decide +kernel
theorem dL_shows_24 : decode cL_shows 24 = .ok (.aload_n 3, 1) := by decide +kernel
theorem dL_shows_25 : decode cL_shows 25 = .ok (.iload 7, 2) := by decide +kernel
theorem dL_shows_27 : decode cL_shows 27 = .ok (.iaload, 1) := by decide +kernel
theorem dL_shows_28 : decode cL_shows 28 = .ok (.iload_n 0, 1) := by decide +kernel
theorem dL_shows_29 : decode cL_shows 29 = .ok (.bipush 8, 2) := by decide +kernel
theorem dL_shows_31 : decode cL_shows 31 = .ok (.iload_n 1, 1) := by decide +kernel
theorem dL_shows_32 : decode cL_shows 32 = .ok (.imul, 1) := by decide +kernel
theorem dL_shows_33 : decode cL_shows 33 = .ok (.iadd, 1) := by decide +kernel
theorem dL_shows_34 : decode cL_shows 34 = .ok (.bipush 64, 2) := by decide +kernel
theorem dL_shows_36 : decode cL_shows 36 = .ok (.iload_n 2, 1) := by decide +kernel
theorem dL_shows_37 : decode cL_shows 37 = .ok (.imul, 1) := by decide +kernel
theorem dL_shows_38 : decode cL_shows 38 = .ok (.iadd, 1) := by decide +kernel
theorem dL_shows_39 : decode cL_shows 39 = .ok (.if_icmp .ne 19, 3) := by decide +kernel
theorem dL_shows_42 : decode cL_shows 42 = .ok (.aload 4, 2) := by decide +kernel
theorem dL_shows_44 : decode cL_shows 44 = .ok (.iload 7, 2) := by decide +kernel
theorem dL_shows_46 : decode cL_shows 46 = .ok (.iaload, 1) := by decide +kernel
theorem dL_shows_47 : decode cL_shows 47 = .ok (.aload 5, 2) := by decide +kernel
theorem dL_shows_49 : decode cL_shows 49 = .ok (.iconst 0, 1) := by decide +kernel
theorem dL_shows_50 : decode cL_shows 50 = .ok (.iaload, 1) := by decide +kernel
theorem dL_shows_51 : decode cL_shows 51 = .ok (.if_icmp .le 7, 3) := by decide +kernel
theorem dL_shows_54 : decode cL_shows 54 = .ok (.iconst 1, 1) := by decide +kernel
theorem dL_shows_55 : decode cL_shows 55 = .ok (.goto 4, 3) := by decide +kernel
theorem dL_shows_58 : decode cL_shows 58 = .ok (.iconst 0, 1) := by decide +kernel
theorem dL_shows_59 : decode cL_shows 59 = .ok (.istore 6, 2) := by decide +kernel
theorem dL_shows_61 : decode cL_shows 61 = .ok (.iinc 7 1, 3) := by decide +kernel
theorem dL_shows_64 : decode cL_shows 64 = .ok (.goto (-58), 3) := by decide +kernel
theorem dL_shows_67 : decode cL_shows 67 = .ok (.iload 6, 2) := by decide +kernel
theorem dL_shows_69 : decode cL_shows 69 = .ok (.ireturn, 1) := by decide +kernel
theorem dL_goes_0 : decode cL_goes 0 = .ok (.iconst 3, 1) := by decide +kernel
theorem dL_goes_1 : decode cL_goes 1 = .ok (.aload_n 3, 1) := by decide +kernel
theorem dL_goes_2 : decode cL_goes 2 = .ok (.bipush 6, 2) := by decide +kernel
theorem dL_goes_4 : decode cL_goes 4 = .ok (.iload_n 0, 1) := by decide +kernel
theorem dL_goes_5 : decode cL_goes 5 = .ok (.imul, 1) := by decide +kernel
theorem dL_goes_6 : decode cL_goes 6 = .ok (.iconst 3, 1) := by decide +kernel
theorem dL_goes_7 : decode cL_goes 7 = .ok (.iadd, 1) := by decide +kernel
theorem dL_goes_8 : decode cL_goes 8 = .ok (.iaload, 1) := by decide +kernel
theorem dL_goes_9 : decode cL_goes 9 = .ok (.imul, 1) := by decide +kernel
theorem dL_goes_10 : decode cL_goes 10 = .ok (.istore 7, 2) := by decide +kernel
theorem dL_goes_12 : decode cL_goes 12 = .ok (.aload_n 2, 1) := by decide +kernel
theorem dL_goes_13 : decode cL_goes 13 = .ok (.iload 7, 2) := by decide +kernel
theorem dL_goes_15 : decode cL_goes 15 = .ok (.aload_n 2, 1) := by decide +kernel
theorem dL_goes_16 : decode cL_goes 16 = .ok (.iload 7, 2) := by decide +kernel
theorem dL_goes_18 : decode cL_goes 18 = .ok (.iaload, 1) := by decide +kernel
theorem dL_goes_19 : decode cL_goes 19 = .ok (.aload_n 3, 1) := by decide +kernel
theorem dL_goes_20 : decode cL_goes 20 = .ok (.bipush 6, 2) := by decide +kernel
theorem dL_goes_22 : decode cL_goes 22 = .ok (.iload_n 0, 1) := by decide +kernel
theorem dL_goes_23 : decode cL_goes 23 = .ok (.imul, 1) := by decide +kernel
theorem dL_goes_24 : decode cL_goes 24 = .ok (.iconst 2, 1) := by decide +kernel
theorem dL_goes_25 : decode cL_goes 25 = .ok (.iadd, 1) := by decide +kernel
theorem dL_goes_26 : decode cL_goes 26 = .ok (.iaload, 1) := by decide +kernel
theorem dL_goes_27 : decode cL_goes 27 = .ok (.iconst 2, 1) := by decide +kernel
theorem dL_goes_28 : decode cL_goes 28 = .ok (.if_icmp .ne 14, 3) := by decide +kernel
theorem dL_goes_31 : decode cL_goes 31 = .ok (.aload_n 3, 1) := by decide +kernel
theorem dL_goes_32 : decode cL_goes 32 = .ok (.bipush 6, 2) := by decide +kernel
theorem dL_goes_34 : decode cL_goes 34 = .ok (.iload_n 0, 1) := by decide +kernel
theorem dL_goes_35 : decode cL_goes 35 = .ok (.imul, 1) := by decide +kernel
theorem dL_goes_36 : decode cL_goes 36 = .ok (.iconst 1, 1) := by decide +kernel
theorem dL_goes_37 : decode cL_goes 37 = .ok (.iadd, 1) := by decide +kernel
theorem dL_goes_38 : decode cL_goes 38 = .ok (.iaload, 1) := by decide +kernel
theorem dL_goes_39 : decode cL_goes 39 = .ok (.goto 9, 3) := by decide +kernel
theorem dL_goes_42 : decode cL_goes 42 = .ok (.aload_n 3, 1) := by decide +kernel
theorem dL_goes_43 : decode cL_goes 43 = .ok (.bipush 6, 2) := by decide +kernel
theorem dL_goes_45 : decode cL_goes 45 = .ok (.iload_n 0, 1) := by decide +kernel
theorem dL_goes_46 : decode cL_goes 46 = .ok (.imul, 1) := by decide +kernel
theorem dL_goes_47 : decode cL_goes 47 = .ok (.iaload, 1) := by decide +kernel
theorem dL_goes_48 : decode cL_goes 48 = .ok (.invokestatic 31, 3) := by decide +kernel
theorem dL_goes_51 : decode cL_goes 51 = .ok (.iastore, 1) := by decide +kernel
theorem dL_goes_52 : decode cL_goes 52 = .ok (.aload_n 3, 1) := by decide +kernel
theorem dL_goes_53 : decode cL_goes 53 = .ok (.bipush 6, 2) := by decide +kernel
theorem dL_goes_55 : decode cL_goes 55 = .ok (.iload_n 0, 1) := by decide +kernel
theorem dL_goes_56 : decode cL_goes 56 = .ok (.imul, 1) := by decide +kernel
theorem dL_goes_57 : decode cL_goes 57 = .ok (.iconst 2, 1) := by decide +kernel
theorem dL_goes_58 : decode cL_goes 58 = .ok (.iadd, 1) := by decide +kernel
theorem dL_goes_59 : decode cL_goes 59 = .ok (.iaload, 1) := by decide +kernel
theorem dL_goes_60 : decode cL_goes 60 = .ok (.iconst 1, 1) := by decide +kernel
theorem dL_goes_61 : decode cL_goes 61 = .ok (.if_icmp .ne 18, 3) := by decide +kernel
theorem dL_goes_64 : decode cL_goes 64 = .ok (.aload_n 2, 1) := by decide +kernel
theorem dL_goes_65 : decode cL_goes 65 = .ok (.iload 7, 2) := by decide +kernel
theorem dL_goes_67 : decode cL_goes 67 = .ok (.iaload, 1) := by decide +kernel
theorem dL_goes_68 : decode cL_goes 68 = .ok (.aload_n 3, 1) := by decide +kernel
theorem dL_goes_69 : decode cL_goes 69 = .ok (.bipush 6, 2) := by decide +kernel
theorem dL_goes_71 : decode cL_goes 71 = .ok (.iload_n 0, 1) := by decide +kernel
theorem dL_goes_72 : decode cL_goes 72 = .ok (.imul, 1) := by decide +kernel
theorem dL_goes_73 : decode cL_goes 73 = .ok (.iaload, 1) := by decide +kernel
theorem dL_goes_74 : decode cL_goes 74 = .ok (.if_icmp .eq 5, 3) := by decide +kernel
theorem dL_goes_77 : decode cL_goes 77 = .ok (.iconst 0, 1) := by decide +kernel
theorem dL_goes_78 : decode cL_goes 78 = .ok (.ireturn, 1) := by decide +kernel
theorem dL_goes_79 : decode cL_goes 79 = .ok (.aload_n 3, 1) := by decide +kernel
theorem dL_goes_80 : decode cL_goes 80 = .ok (.bipush 6, 2) := by decide +kernel
theorem dL_goes_82 : decode cL_goes 82 = .ok (.iload_n 0, 1) := by decide +kernel
theorem dL_goes_83 : decode cL_goes 83 = .ok (.imul, 1) := by decide +kernel
theorem dL_goes_84 : decode cL_goes 84 = .ok (.iconst 2, 1) := by decide +kernel
theorem dL_goes_85 : decode cL_goes 85 = .ok (.iadd, 1) := by decide +kernel
theorem dL_goes_86 : decode cL_goes 86 = .ok (.iconst 2, 1) := by decide +kernel
theorem dL_goes_87 : decode cL_goes 87 = .ok (.iastore, 1) := by decide +kernel
theorem dL_goes_88 : decode cL_goes 88 = .ok (.aload_n 2, 1) := by decide +kernel
theorem dL_goes_89 : decode cL_goes 89 = .ok (.iload 7, 2) := by decide +kernel
theorem dL_goes_91 : decode cL_goes 91 = .ok (.iaload, 1) := by decide +kernel
theorem dL_goes_92 : decode cL_goes 92 = .ok (.istore 8, 2) := by decide +kernel
theorem dL_goes_94 : decode cL_goes 94 = .ok (.aload_n 1, 1) := by decide +kernel
theorem dL_goes_95 : decode cL_goes 95 = .ok (.bipush 6, 2) := by decide +kernel
theorem dL_goes_97 : decode cL_goes 97 = .ok (.iload 8, 2) := by decide +kernel
theorem dL_goes_99 : decode cL_goes 99 = .ok (.imul, 1) := by decide +kernel
theorem dL_goes_100 : decode cL_goes 100 = .ok (.iaload, 1) := by decide +kernel
theorem dL_goes_101 : decode cL_goes 101 = .ok (.aload_n 1, 1) := by decide +kernel
theorem dL_goes_102 : decode cL_goes 102 = .ok (.bipush 6, 2) := by decide +kernel
theorem dL_goes_104 : decode cL_goes 104 = .ok (.iload 8, 2) := by decide +kernel
theorem dL_goes_106 : decode cL_goes 106 = .ok (.imul, 1) := by decide +kernel
theorem dL_goes_107 : decode cL_goes 107 = .ok (.iconst 1, 1) := by decide +kernel
theorem dL_goes_108 : decode cL_goes 108 = .ok (.iadd, 1) := by decide +kernel
theorem dL_goes_109 : decode cL_goes 109 = .ok (.iaload, 1) := by decide +kernel
theorem dL_goes_110 : decode cL_goes 110 = .ok (.if_icmp .lt 7, 3) := by decide +kernel
theorem dL_goes_113 : decode cL_goes 113 = .ok (.iconst 1, 1) := by decide +kernel
theorem dL_goes_114 : decode cL_goes 114 = .ok (.goto 4, 3) := by decide +kernel
theorem dL_goes_117 : decode cL_goes 117 = .ok (.iconst 0, 1) := by decide +kernel
theorem dL_goes_118 : decode cL_goes 118 = .ok (.istore 9, 2) := by decide +kernel
theorem dL_goes_120 : decode cL_goes 120 = .ok (.aload_n 1, 1) := by decide +kernel
theorem dL_goes_121 : decode cL_goes 121 = .ok (.bipush 6, 2) := by decide +kernel
theorem dL_goes_123 : decode cL_goes 123 = .ok (.iload 8, 2) := by decide +kernel
theorem dL_goes_125 : decode cL_goes 125 = .ok (.imul, 1) := by decide +kernel
theorem dL_goes_126 : decode cL_goes 126 = .ok (.dup2, 1) := by decide +kernel
theorem dL_goes_127 : decode cL_goes 127 = .ok (.iaload, 1) := by decide +kernel
theorem dL_goes_128 : decode cL_goes 128 = .ok (.iload 9, 2) := by decide +kernel
theorem dL_goes_130 : decode cL_goes 130 = .ok (.ifCond .eq 15, 3) := by decide +kernel
theorem dL_goes_133 : decode cL_goes 133 = .ok (.aload_n 1, 1) := by decide +kernel
theorem dL_goes_134 : decode cL_goes 134 = .ok (.bipush 6, 2) := by decide +kernel
theorem dL_goes_136 : decode cL_goes 136 = .ok (.iload 8, 2) := by decide +kernel
theorem dL_goes_138 : decode cL_goes 138 = .ok (.imul, 1) := by decide +kernel
theorem dL_goes_139 : decode cL_goes 139 = .ok (.iconst 1, 1) := by decide +kernel
theorem dL_goes_140 : decode cL_goes 140 = .ok (.iadd, 1) := by decide +kernel
theorem dL_goes_141 : decode cL_goes 141 = .ok (.iaload, 1) := by decide +kernel
theorem dL_goes_142 : decode cL_goes 142 = .ok (.goto 4, 3) := by decide +kernel
theorem dL_goes_145 : decode cL_goes 145 = .ok (.iconst 0, 1) := by decide +kernel
theorem dL_goes_146 : decode cL_goes 146 = .ok (.isub, 1) := by decide +kernel
theorem dL_goes_147 : decode cL_goes 147 = .ok (.iastore, 1) := by decide +kernel
theorem dL_goes_148 : decode cL_goes 148 = .ok (.aload_n 3, 1) := by decide +kernel
theorem dL_goes_149 : decode cL_goes 149 = .ok (.bipush 6, 2) := by decide +kernel
theorem dL_goes_151 : decode cL_goes 151 = .ok (.iload_n 0, 1) := by decide +kernel
theorem dL_goes_152 : decode cL_goes 152 = .ok (.imul, 1) := by decide +kernel
theorem dL_goes_153 : decode cL_goes 153 = .ok (.iconst 4, 1) := by decide +kernel
theorem dL_goes_154 : decode cL_goes 154 = .ok (.iadd, 1) := by decide +kernel
theorem dL_goes_155 : decode cL_goes 155 = .ok (.dup2, 1) := by decide +kernel
theorem dL_goes_156 : decode cL_goes 156 = .ok (.iaload, 1) := by decide +kernel
theorem dL_goes_157 : decode cL_goes 157 = .ok (.iload 9, 2) := by decide +kernel
theorem dL_goes_159 : decode cL_goes 159 = .ok (.ifCond .eq 7, 3) := by decide +kernel
theorem dL_goes_162 : decode cL_goes 162 = .ok (.iconst 0, 1) := by decide +kernel
theorem dL_goes_163 : decode cL_goes 163 = .ok (.goto 4, 3) := by decide +kernel
theorem dL_goes_166 : decode cL_goes 166 = .ok (.iconst 1, 1) := by decide +kernel
theorem dL_goes_167 : decode cL_goes 167 = .ok (.iadd, 1) := by decide +kernel
theorem dL_goes_168 : decode cL_goes 168 = .ok (.iastore, 1) := by decide +kernel
theorem dL_goes_169 : decode cL_goes 169 = .ok (.aload_n 1, 1) := by decide +kernel
theorem dL_goes_170 : decode cL_goes 170 = .ok (.bipush 6, 2) := by decide +kernel
theorem dL_goes_172 : decode cL_goes 172 = .ok (.iload 8, 2) := by decide +kernel
theorem dL_goes_174 : decode cL_goes 174 = .ok (.imul, 1) := by decide +kernel
theorem dL_goes_175 : decode cL_goes 175 = .ok (.iconst 2, 1) := by decide +kernel
theorem dL_goes_176 : decode cL_goes 176 = .ok (.iadd, 1) := by decide +kernel
theorem dL_goes_177 : decode cL_goes 177 = .ok (.iaload, 1) := by decide +kernel
theorem dL_goes_178 : decode cL_goes 178 = .ok (.iconst 1, 1) := by decide +kernel
theorem dL_goes_179 : decode cL_goes 179 = .ok (.if_icmp .ne 79, 3) := by decide +kernel
theorem dL_goes_182 : decode cL_goes 182 = .ok (.aload 6, 2) := by decide +kernel
theorem dL_goes_184 : decode cL_goes 184 = .ok (.iconst 3, 1) := by decide +kernel
theorem dL_goes_185 : decode cL_goes 185 = .ok (.iaload, 1) := by decide +kernel
theorem dL_goes_186 : decode cL_goes 186 = .ok (.bipush 40, 2) := by decide +kernel
theorem dL_goes_188 : decode cL_goes 188 = .ok (.if_icmp .ge 70, 3) := by decide +kernel
theorem dL_goes_191 : decode cL_goes 191 = .ok (.iload 8, 2) := by decide +kernel
theorem dL_goes_193 : decode cL_goes 193 = .ok (.iload_n 0, 1) := by decide +kernel
theorem dL_goes_194 : decode cL_goes 194 = .ok (.aload 6, 2) := by decide +kernel
theorem dL_goes_196 : decode cL_goes 196 = .ok (.iconst 0, 1) := by decide +kernel
theorem dL_goes_197 : decode cL_goes 197 = .ok (.iaload, 1) := by decide +kernel
theorem dL_goes_198 : decode cL_goes 198 = .ok (.aload 4, 2) := by decide +kernel
theorem dL_goes_200 : decode cL_goes 200 = .ok (.aload 5, 2) := by decide +kernel
theorem dL_goes_202 : decode cL_goes 202 = .ok (.aload 6, 2) := by decide +kernel
theorem dL_goes_204 : decode cL_goes 204 = .ok (.invokestatic 34, 3) := by decide +kernel
theorem dL_goes_207 : decode cL_goes 207 = .ok (.ifCond .ne 51, 3) := by decide +kernel
theorem dL_goes_210 : decode cL_goes 210 = .ok (.aload 4, 2) := by decide +kernel
theorem dL_goes_212 : decode cL_goes 212 = .ok (.aload 6, 2) := by decide +kernel
theorem dL_goes_214 : decode cL_goes 214 = .ok (.iconst 3, 1) := by decide +kernel
theorem dL_goes_215 : decode cL_goes 215 = .ok (.iaload, 1) := by decide +kernel
theorem dL_goes_216 : decode cL_goes 216 = .ok (.iload 8, 2) := by decide +kernel
theorem dL_goes_218 : decode cL_goes 218 = .ok (.bipush 8, 2) := by decide +kernel
theorem dL_goes_220 : decode cL_goes 220 = .ok (.iload_n 0, 1) := by decide +kernel
theorem dL_goes_221 : decode cL_goes 221 = .ok (.imul, 1) := by decide +kernel
theorem dL_goes_222 : decode cL_goes 222 = .ok (.iadd, 1) := by decide +kernel
theorem dL_goes_223 : decode cL_goes 223 = .ok (.bipush 64, 2) := by decide +kernel
theorem dL_goes_225 : decode cL_goes 225 = .ok (.aload 6, 2) := by decide +kernel
theorem dL_goes_227 : decode cL_goes 227 = .ok (.iconst 0, 1) := by decide +kernel
theorem dL_goes_228 : decode cL_goes 228 = .ok (.iaload, 1) := by decide +kernel
theorem dL_goes_229 : decode cL_goes 229 = .ok (.imul, 1) := by decide +kernel
theorem dL_goes_230 : decode cL_goes 230 = .ok (.iadd, 1) := by decide +kernel
theorem dL_goes_231 : decode cL_goes 231 = .ok (.iastore, 1) := by decide +kernel
theorem dL_goes_232 : decode cL_goes 232 = .ok (.aload 5, 2) := by decide +kernel
theorem dL_goes_234 : decode cL_goes 234 = .ok (.aload 6, 2) := by decide +kernel
theorem dL_goes_236 : decode cL_goes 236 = .ok (.iconst 3, 1) := by decide +kernel
theorem dL_goes_237 : decode cL_goes 237 = .ok (.iaload, 1) := by decide +kernel
theorem dL_goes_238 : decode cL_goes 238 = .ok (.aload 6, 2) := by decide +kernel
theorem dL_goes_240 : decode cL_goes 240 = .ok (.iconst 0, 1) := by decide +kernel
theorem dL_goes_241 : decode cL_goes 241 = .ok (.iaload, 1) := by decide +kernel
theorem dL_goes_242 : decode cL_goes 242 = .ok (.iload 8, 2) := by decide +kernel
theorem dL_goes_244 : decode cL_goes 244 = .ok (.aload_n 1, 1) := by decide +kernel
theorem dL_goes_245 : decode cL_goes 245 = .ok (.invokestatic 38, 3) := by decide +kernel
theorem dL_goes_248 : decode cL_goes 248 = .ok (.iadd, 1) := by decide +kernel
theorem dL_goes_249 : decode cL_goes 249 = .ok (.iastore, 1) := by decide +kernel
theorem dL_goes_250 : decode cL_goes 250 = .ok (.aload 6, 2) := by decide +kernel
theorem dL_goes_252 : decode cL_goes 252 = .ok (.iconst 3, 1) := by decide +kernel
theorem dL_goes_253 : decode cL_goes 253 = .ok (.dup2, 1) := by decide +kernel
theorem dL_goes_254 : decode cL_goes 254 = .ok (.iaload, 1) := by decide +kernel
theorem dL_goes_255 : decode cL_goes 255 = .ok (.iconst 1, 1) := by decide +kernel
theorem dL_goes_256 : decode cL_goes 256 = .ok (.iadd, 1) := by decide +kernel
theorem dL_goes_257 : decode cL_goes 257 = .ok (.iastore, 1) := by decide +kernel
theorem dL_goes_258 : decode cL_goes 258 = .ok (.iload 8, 2) := by decide +kernel
theorem dL_goes_260 : decode cL_goes 260 = .ok (.aload_n 3, 1) := by decide +kernel
theorem dL_goes_261 : decode cL_goes 261 = .ok (.bipush 6, 2) := by decide +kernel
theorem dL_goes_263 : decode cL_goes 263 = .ok (.iload_n 0, 1) := by decide +kernel
theorem dL_goes_264 : decode cL_goes 264 = .ok (.imul, 1) := by decide +kernel
theorem dL_goes_265 : decode cL_goes 265 = .ok (.iconst 1, 1) := by decide +kernel
theorem dL_goes_266 : decode cL_goes 266 = .ok (.iadd, 1) := by decide +kernel
theorem dL_goes_267 : decode cL_goes 267 = .ok (.iaload, 1) := by decide +kernel
theorem dL_goes_268 : decode cL_goes 268 = .ok (.if_icmp .ne 7, 3) := by decide +kernel
theorem dL_goes_271 : decode cL_goes 271 = .ok (.iconst 1, 1) := by decide +kernel
theorem dL_goes_272 : decode cL_goes 272 = .ok (.goto 4, 3) := by decide +kernel
theorem dL_goes_275 : decode cL_goes 275 = .ok (.iconst 0, 1) := by decide +kernel
theorem dL_goes_276 : decode cL_goes 276 = .ok (.istore 10, 2) := by decide +kernel
theorem dL_goes_278 : decode cL_goes 278 = .ok (.aload_n 3, 1) := by decide +kernel
theorem dL_goes_279 : decode cL_goes 279 = .ok (.bipush 6, 2) := by decide +kernel
theorem dL_goes_281 : decode cL_goes 281 = .ok (.iload_n 0, 1) := by decide +kernel
theorem dL_goes_282 : decode cL_goes 282 = .ok (.imul, 1) := by decide +kernel
theorem dL_goes_283 : decode cL_goes 283 = .ok (.iconst 2, 1) := by decide +kernel
theorem dL_goes_284 : decode cL_goes 284 = .ok (.iadd, 1) := by decide +kernel
theorem dL_goes_285 : decode cL_goes 285 = .ok (.iload 10, 2) := by decide +kernel
theorem dL_goes_287 : decode cL_goes 287 = .ok (.ifCond .eq 7, 3) := by decide +kernel
theorem dL_goes_290 : decode cL_goes 290 = .ok (.iconst 3, 1) := by decide +kernel
theorem dL_goes_291 : decode cL_goes 291 = .ok (.goto 4, 3) := by decide +kernel
theorem dL_goes_294 : decode cL_goes 294 = .ok (.iconst 2, 1) := by decide +kernel
theorem dL_goes_295 : decode cL_goes 295 = .ok (.iastore, 1) := by decide +kernel
theorem dL_goes_296 : decode cL_goes 296 = .ok (.aload_n 2, 1) := by decide +kernel
theorem dL_goes_297 : decode cL_goes 297 = .ok (.iload 7, 2) := by decide +kernel
theorem dL_goes_299 : decode cL_goes 299 = .ok (.iconst 2, 1) := by decide +kernel
theorem dL_goes_300 : decode cL_goes 300 = .ok (.iadd, 1) := by decide +kernel
theorem dL_goes_301 : decode cL_goes 301 = .ok (.iload 10, 2) := by decide +kernel
theorem dL_goes_303 : decode cL_goes 303 = .ok (.ifCond .eq 7, 3) := by decide +kernel
theorem dL_goes_306 : decode cL_goes 306 = .ok (.iconst (-1), 1) := by decide +kernel
theorem dL_goes_307 : decode cL_goes 307 = .ok (.goto 4, 3) := by decide +kernel
theorem dL_goes_310 : decode cL_goes 310 = .ok (.iload_n 0, 1) := by decide +kernel
theorem dL_goes_311 : decode cL_goes 311 = .ok (.iastore, 1) := by decide +kernel
theorem dL_goes_312 : decode cL_goes 312 = .ok (.iload 10, 2) := by decide +kernel
theorem dL_goes_314 : decode cL_goes 314 = .ok (.ireturn, 1) := by decide +kernel
theorem dL_isSo_0 : decode cL_isSo 0 = .ok (.iconst 0, 1) := by decide +kernel
theorem dL_isSo_1 : decode cL_isSo 1 = .ok (.istore 8, 2) := by decide +kernel
theorem dL_isSo_3 : decode cL_isSo 3 = .ok (.aload_n 0, 1) := by decide +kernel
theorem dL_isSo_4 : decode cL_isSo 4 = .ok (.invokevirtual 42, 3) := by decide +kernel
theorem dL_isSo_7 : decode cL_isSo 7 = .ok (.aload 7, 2) := by decide +kernel
theorem dL_isSo_9 : decode cL_isSo 9 = .ok (.iconst 0, 1) := by decide +kernel
theorem dL_isSo_10 : decode cL_isSo 10 = .ok (.iaload, 1) := by decide +kernel
theorem dL_isSo_11 : decode cL_isSo 11 = .ok (.if_icmp .ne 40, 3) := by decide +kernel
theorem dL_isSo_14 : decode cL_isSo 14 = .ok (.aload_n 0, 1) := by decide +kernel
theorem dL_isSo_15 : decode cL_isSo 15 = .ok (.invokevirtual 45, 3) := by decide +kernel
theorem dL_isSo_18 : decode cL_isSo 18 = .ok (.aload 7, 2) := by decide +kernel
theorem dL_isSo_20 : decode cL_isSo 20 = .ok (.iconst 1, 1) := by decide +kernel
theorem dL_isSo_21 : decode cL_isSo 21 = .ok (.iaload, 1) := by decide +kernel
theorem dL_isSo_22 : decode cL_isSo 22 = .ok (.if_icmp .ne 29, 3) := by decide +kernel
theorem dL_isSo_25 : decode cL_isSo 25 = .ok (.aload_n 0, 1) := by decide +kernel
theorem dL_isSo_26 : decode cL_isSo 26 = .ok (.invokevirtual 48, 3) := by decide +kernel
theorem dL_isSo_29 : decode cL_isSo 29 = .ok (.aload 7, 2) := by decide +kernel
theorem dL_isSo_31 : decode cL_isSo 31 = .ok (.iconst 2, 1) := by decide +kernel
theorem dL_isSo_32 : decode cL_isSo 32 = .ok (.iaload, 1) := by decide +kernel
theorem dL_isSo_33 : decode cL_isSo 33 = .ok (.if_icmp .ne 18, 3) := by decide +kernel
theorem dL_isSo_36 : decode cL_isSo 36 = .ok (.aload_n 0, 1) := by decide +kernel
theorem dL_isSo_37 : decode cL_isSo 37 = .ok (.invokevirtual 51, 3) := by decide +kernel
theorem dL_isSo_40 : decode cL_isSo 40 = .ok (.aload 7, 2) := by decide +kernel
theorem dL_isSo_42 : decode cL_isSo 42 = .ok (.iconst 3, 1) := by decide +kernel
theorem dL_isSo_43 : decode cL_isSo 43 = .ok (.iaload, 1) := by decide +kernel
theorem dL_isSo_44 : decode cL_isSo 44 = .ok (.if_icmp .ne 7, 3) := by decide +kernel
theorem dL_isSo_47 : decode cL_isSo 47 = .ok (.iconst 1, 1) := by decide +kernel
theorem dL_isSo_48 : decode cL_isSo 48 = .ok (.goto 4, 3) := by decide +kernel
theorem dL_isSo_51 : decode cL_isSo 51 = .ok (.iconst 0, 1) := by decide +kernel
theorem dL_isSo_52 : decode cL_isSo 52 = .ok (.istore 9, 2) := by decide +kernel
theorem dL_isSo_54 : decode cL_isSo 54 = .ok (.iconst 0, 1) := by decide +kernel
theorem dL_isSo_55 : decode cL_isSo 55 = .ok (.istore 10, 2) := by decide +kernel
theorem dL_isSo_57 : decode cL_isSo 57 = .ok (.iload 10, 2) := by decide +kernel
theorem dL_isSo_59 : decode cL_isSo 59 = .ok (.bipush 8, 2) := by decide +kernel
theorem dL_isSo_61 : decode cL_isSo 61 = .ok (.if_icmp .ge 63, 3) := by decide +kernel
theorem dL_isSo_64 : decode cL_isSo 64 = .ok (.iload 9, 2) := by decide +kernel
theorem dL_isSo_66 : decode cL_isSo 66 = .ok (.ifCond .eq 58, 3) := by decide +kernel
theorem dL_isSo_69 : decode cL_isSo 69 = .ok (.aload_n 0, 1) := by decide +kernel
theorem dL_isSo_70 : decode cL_isSo 70 = .ok (.iload 10, 2) := by decide +kernel
theorem dL_isSo_72 : decode cL_isSo 72 = .ok (.invokevirtual 54, 3) := by decide +kernel
theorem dL_isSo_75 : decode cL_isSo 75 = .ok (.aload_n 2, 1) := by decide +kernel
theorem dL_isSo_76 : decode cL_isSo 76 = .ok (.bipush 6, 2) := by decide +kernel
theorem dL_isSo_78 : decode cL_isSo 78 = .ok (.iload 10, 2) := by decide +kernel
theorem dL_isSo_80 : decode cL_isSo 80 = .ok (.imul, 1) := by decide +kernel
theorem dL_isSo_81 : decode cL_isSo 81 = .ok (.iaload, 1) := by decide +kernel
theorem dL_isSo_82 : decode cL_isSo 82 = .ok (.if_icmp .ne 33, 3) := by decide +kernel
theorem dL_isSo_85 : decode cL_isSo 85 = .ok (.aload_n 0, 1) := by decide +kernel
theorem dL_isSo_86 : decode cL_isSo 86 = .ok (.iload 10, 2) := by decide +kernel
theorem dL_isSo_88 : decode cL_isSo 88 = .ok (.iload_n 1, 1) := by decide +kernel
theorem dL_isSo_89 : decode cL_isSo 89 = .ok (.bipush 8, 2) := by decide +kernel
theorem dL_isSo_91 : decode cL_isSo 91 = .ok (.invokestatic 58, 3) := by decide +kernel
theorem dL_isSo_94 : decode cL_isSo 94 = .ok (.invokevirtual 61, 3) := by decide +kernel
theorem dL_isSo_97 : decode cL_isSo 97 = .ok (.iload 10, 2) := by decide +kernel
theorem dL_isSo_99 : decode cL_isSo 99 = .ok (.iload_n 1, 1) := by decide +kernel
theorem dL_isSo_100 : decode cL_isSo 100 = .ok (.bipush 8, 2) := by decide +kernel
theorem dL_isSo_102 : decode cL_isSo 102 = .ok (.invokestatic 58, 3) := by decide +kernel
theorem dL_isSo_105 : decode cL_isSo 105 = .ok (.invokestatic 26, 3) := by decide +kernel
theorem dL_isSo_108 : decode cL_isSo 108 = .ok (.if_icmp .ne 7, 3) := by decide +kernel
theorem dL_isSo_111 : decode cL_isSo 111 = .ok (.iconst 1, 1) := by decide +kernel
theorem dL_isSo_112 : decode cL_isSo 112 = .ok (.goto 4, 3) := by decide +kernel
theorem dL_isSo_115 : decode cL_isSo 115 = .ok (.iconst 0, 1) := by decide +kernel
theorem dL_isSo_116 : decode cL_isSo 116 = .ok (.istore 9, 2) := by decide +kernel
theorem dL_isSo_118 : decode cL_isSo 118 = .ok (.iinc 10 1, 3) := by decide +kernel
theorem dL_isSo_121 : decode cL_isSo 121 = .ok (.goto (-64), 3) := by decide +kernel
theorem dL_isSo_124 : decode cL_isSo 124 = .ok (.iconst 0, 1) := by decide +kernel
theorem dL_isSo_125 : decode cL_isSo 125 = .ok (.istore 10, 2) := by decide +kernel
theorem dL_isSo_127 : decode cL_isSo 127 = .ok (.iload 10, 2) := by decide +kernel
theorem dL_isSo_129 : decode cL_isSo 129 = .ok (.iconst 4, 1) := by decide +kernel
theorem dL_isSo_130 : decode cL_isSo 130 = .ok (.if_icmp .ge 53, 3) := by decide +kernel
theorem dL_isSo_133 : decode cL_isSo 133 = .ok (.iload 9, 2) := by decide +kernel
theorem dL_isSo_135 : decode cL_isSo 135 = .ok (.ifCond .eq 48, 3) := by decide +kernel
theorem dL_isSo_138 : decode cL_isSo 138 = .ok (.aload_n 0, 1) := by decide +kernel
theorem dL_isSo_139 : decode cL_isSo 139 = .ok (.iload 10, 2) := by decide +kernel
theorem dL_isSo_141 : decode cL_isSo 141 = .ok (.invokevirtual 62, 3) := by decide +kernel
theorem dL_isSo_144 : decode cL_isSo 144 = .ok (.aload_n 3, 1) := by decide +kernel
theorem dL_isSo_145 : decode cL_isSo 145 = .ok (.iconst 3, 1) := by decide +kernel
theorem dL_isSo_146 : decode cL_isSo 146 = .ok (.iload 10, 2) := by decide +kernel
theorem dL_isSo_148 : decode cL_isSo 148 = .ok (.imul, 1) := by decide +kernel
theorem dL_isSo_149 : decode cL_isSo 149 = .ok (.iaload, 1) := by decide +kernel
theorem dL_isSo_150 : decode cL_isSo 150 = .ok (.if_icmp .ne 24, 3) := by decide +kernel
theorem dL_isSo_153 : decode cL_isSo 153 = .ok (.aload_n 0, 1) := by decide +kernel
theorem dL_isSo_154 : decode cL_isSo 154 = .ok (.iload 10, 2) := by decide +kernel
theorem dL_isSo_156 : decode cL_isSo 156 = .ok (.invokevirtual 65, 3) := by decide +kernel
theorem dL_isSo_159 : decode cL_isSo 159 = .ok (.aload_n 3, 1) := by decide +kernel
theorem dL_isSo_160 : decode cL_isSo 160 = .ok (.iconst 3, 1) := by decide +kernel
theorem dL_isSo_161 : decode cL_isSo 161 = .ok (.iload 10, 2) := by decide +kernel
theorem dL_isSo_163 : decode cL_isSo 163 = .ok (.imul, 1) := by decide +kernel
theorem dL_isSo_164 : decode cL_isSo 164 = .ok (.iconst 1, 1) := by decide +kernel
theorem dL_isSo_165 : decode cL_isSo 165 = .ok (.iadd, 1) := by decide +kernel
theorem dL_isSo_166 : decode cL_isSo 166 = .ok (.iaload, 1) := by decide +kernel
theorem dL_isSo_167 : decode cL_isSo 167 = .ok (.if_icmp .ne 7, 3) := by decide +kernel
theorem dL_isSo_170 : decode cL_isSo 170 = .ok (.iconst 1, 1) := by decide +kernel
theorem dL_isSo_171 : decode cL_isSo 171 = .ok (.goto 4, 3) := by decide +kernel
theorem dL_isSo_174 : decode cL_isSo 174 = .ok (.iconst 0, 1) := by decide +kernel
theorem dL_isSo_175 : decode cL_isSo 175 = .ok (.istore 9, 2) := by decide +kernel
theorem dL_isSo_177 : decode cL_isSo 177 = .ok (.iinc 10 1, 3) := by decide +kernel
theorem dL_isSo_180 : decode cL_isSo 180 = .ok (.goto (-53), 3) := by decide +kernel
theorem dL_isSo_183 : decode cL_isSo 183 = .ok (.iconst 0, 1) := by decide +kernel
theorem dL_isSo_184 : decode cL_isSo 184 = .ok (.istore 10, 2) := by decide +kernel
theorem dL_isSo_186 : decode cL_isSo 186 = .ok (.iload 10, 2) := by decide +kernel
theorem dL_isSo_188 : decode cL_isSo 188 = .ok (.aload 7, 2) := by decide +kernel
theorem dL_isSo_190 : decode cL_isSo 190 = .ok (.iconst 2, 1) := by decide +kernel
theorem dL_isSo_191 : decode cL_isSo 191 = .ok (.iaload, 1) := by decide +kernel
theorem dL_isSo_192 : decode cL_isSo 192 = .ok (.if_icmp .ge 78, 3) := by decide +kernel
theorem dL_isSo_195 : decode cL_isSo 195 = .ok (.iload 9, 2) := by decide +kernel
theorem dL_isSo_197 : decode cL_isSo 197 = .ok (.ifCond .eq 73, 3) := by decide +kernel
theorem dL_isSo_200 : decode cL_isSo 200 = .ok (.aload_n 0, 1) := by decide +kernel
theorem dL_isSo_201 : decode cL_isSo 201 = .ok (.iload 10, 2) := by decide +kernel
theorem dL_isSo_203 : decode cL_isSo 203 = .ok (.invokevirtual 68, 3) := by decide +kernel
theorem dL_isSo_206 : decode cL_isSo 206 = .ok (.aload 4, 2) := by decide +kernel
theorem dL_isSo_208 : decode cL_isSo 208 = .ok (.bipush 6, 2) := by decide +kernel
theorem dL_isSo_210 : decode cL_isSo 210 = .ok (.iload 10, 2) := by decide +kernel
theorem dL_isSo_212 : decode cL_isSo 212 = .ok (.imul, 1) := by decide +kernel
theorem dL_isSo_213 : decode cL_isSo 213 = .ok (.iconst 2, 1) := by decide +kernel
theorem dL_isSo_214 : decode cL_isSo 214 = .ok (.iadd, 1) := by decide +kernel
theorem dL_isSo_215 : decode cL_isSo 215 = .ok (.iaload, 1) := by decide +kernel
theorem dL_isSo_216 : decode cL_isSo 216 = .ok (.if_icmp .ne 45, 3) := by decide +kernel
theorem dL_isSo_219 : decode cL_isSo 219 = .ok (.aload_n 0, 1) := by decide +kernel
theorem dL_isSo_220 : decode cL_isSo 220 = .ok (.iload 10, 2) := by decide +kernel
theorem dL_isSo_222 : decode cL_isSo 222 = .ok (.invokevirtual 71, 3) := by decide +kernel
theorem dL_isSo_225 : decode cL_isSo 225 = .ok (.aload 4, 2) := by decide +kernel
theorem dL_isSo_227 : decode cL_isSo 227 = .ok (.bipush 6, 2) := by decide +kernel
theorem dL_isSo_229 : decode cL_isSo 229 = .ok (.iload 10, 2) := by decide +kernel
theorem dL_isSo_231 : decode cL_isSo 231 = .ok (.imul, 1) := by decide +kernel
theorem dL_isSo_232 : decode cL_isSo 232 = .ok (.iconst 3, 1) := by decide +kernel
theorem dL_isSo_233 : decode cL_isSo 233 = .ok (.iadd, 1) := by decide +kernel
theorem dL_isSo_234 : decode cL_isSo 234 = .ok (.iaload, 1) := by decide +kernel
theorem dL_isSo_235 : decode cL_isSo 235 = .ok (.if_icmp .ne 26, 3) := by decide +kernel
theorem dL_isSo_238 : decode cL_isSo 238 = .ok (.aload_n 0, 1) := by decide +kernel
theorem dL_isSo_239 : decode cL_isSo 239 = .ok (.iload 10, 2) := by decide +kernel
theorem dL_isSo_241 : decode cL_isSo 241 = .ok (.invokevirtual 74, 3) := by decide +kernel
theorem dL_isSo_244 : decode cL_isSo 244 = .ok (.aload 4, 2) := by decide +kernel
theorem dL_isSo_246 : decode cL_isSo 246 = .ok (.bipush 6, 2) := by decide +kernel
theorem dL_isSo_248 : decode cL_isSo 248 = .ok (.iload 10, 2) := by decide +kernel
theorem dL_isSo_250 : decode cL_isSo 250 = .ok (.imul, 1) := by decide +kernel
theorem dL_isSo_251 : decode cL_isSo 251 = .ok (.iconst 4, 1) := by decide +kernel
theorem dL_isSo_252 : decode cL_isSo 252 = .ok (.iadd, 1) := by decide +kernel
theorem dL_isSo_253 : decode cL_isSo 253 = .ok (.iaload, 1) := by decide +kernel
theorem dL_isSo_254 : decode cL_isSo 254 = .ok (.if_icmp .ne 7, 3) := by decide +kernel
theorem dL_isSo_257 : decode cL_isSo 257 = .ok (.iconst 1, 1) := by decide +kernel
theorem dL_isSo_258 : decode cL_isSo 258 = .ok (.goto 4, 3) := by decide +kernel
theorem dL_isSo_261 : decode cL_isSo 261 = .ok (.iconst 0, 1) := by decide +kernel
theorem dL_isSo_262 : decode cL_isSo 262 = .ok (.istore 9, 2) := by decide +kernel
theorem dL_isSo_264 : decode cL_isSo 264 = .ok (.iinc 10 1, 3) := by decide +kernel
theorem dL_isSo_267 : decode cL_isSo 267 = .ok (.goto (-81), 3) := by decide +kernel
theorem dL_isSo_270 : decode cL_isSo 270 = .ok (.iconst 0, 1) := by decide +kernel
theorem dL_isSo_271 : decode cL_isSo 271 = .ok (.istore 10, 2) := by decide +kernel
theorem dL_isSo_273 : decode cL_isSo 273 = .ok (.iload 10, 2) := by decide +kernel
theorem dL_isSo_275 : decode cL_isSo 275 = .ok (.aload 7, 2) := by decide +kernel
theorem dL_isSo_277 : decode cL_isSo 277 = .ok (.iconst 3, 1) := by decide +kernel
theorem dL_isSo_278 : decode cL_isSo 278 = .ok (.iaload, 1) := by decide +kernel
theorem dL_isSo_279 : decode cL_isSo 279 = .ok (.if_icmp .ge 31, 3) := by decide +kernel
theorem dL_isSo_282 : decode cL_isSo 282 = .ok (.iload 8, 2) := by decide +kernel
theorem dL_isSo_284 : decode cL_isSo 284 = .ok (.aload 6, 2) := by decide +kernel
theorem dL_isSo_286 : decode cL_isSo 286 = .ok (.iload 10, 2) := by decide +kernel
theorem dL_isSo_288 : decode cL_isSo 288 = .ok (.iaload, 1) := by decide +kernel
theorem dL_isSo_289 : decode cL_isSo 289 = .ok (.aload 7, 2) := by decide +kernel
theorem dL_isSo_291 : decode cL_isSo 291 = .ok (.iconst 0, 1) := by decide +kernel
theorem dL_isSo_292 : decode cL_isSo 292 = .ok (.iaload, 1) := by decide +kernel
theorem dL_isSo_293 : decode cL_isSo 293 = .ok (.if_icmp .le 7, 3) := by decide +kernel
theorem dL_isSo_296 : decode cL_isSo 296 = .ok (.iconst 1, 1) := by decide +kernel
theorem dL_isSo_297 : decode cL_isSo 297 = .ok (.goto 4, 3) := by decide +kernel
theorem dL_isSo_300 : decode cL_isSo 300 = .ok (.iconst 0, 1) := by decide +kernel
theorem dL_isSo_301 : decode cL_isSo 301 = .ok (.iadd, 1) := by decide +kernel
theorem dL_isSo_302 : decode cL_isSo 302 = .ok (.istore 8, 2) := by decide +kernel
theorem dL_isSo_304 : decode cL_isSo 304 = .ok (.iinc 10 1, 3) := by decide +kernel
theorem dL_isSo_307 : decode cL_isSo 307 = .ok (.goto (-34), 3) := by decide +kernel
theorem dL_isSo_310 : decode cL_isSo 310 = .ok (.iload 9, 2) := by decide +kernel
theorem dL_isSo_312 : decode cL_isSo 312 = .ok (.ifCond .eq 16, 3) := by decide +kernel
theorem dL_isSo_315 : decode cL_isSo 315 = .ok (.aload_n 0, 1) := by decide +kernel
theorem dL_isSo_316 : decode cL_isSo 316 = .ok (.invokevirtual 77, 3) := by decide +kernel
theorem dL_isSo_319 : decode cL_isSo 319 = .ok (.iload 8, 2) := by decide +kernel
theorem dL_isSo_321 : decode cL_isSo 321 = .ok (.if_icmp .ne 7, 3) := by decide +kernel
theorem dL_isSo_324 : decode cL_isSo 324 = .ok (.iconst 1, 1) := by decide +kernel
theorem dL_isSo_325 : decode cL_isSo 325 = .ok (.goto 4, 3) := by decide +kernel
theorem dL_isSo_328 : decode cL_isSo 328 = .ok (.iconst 0, 1) := by decide +kernel
theorem dL_isSo_329 : decode cL_isSo 329 = .ok (.istore 9, 2) := by decide +kernel
theorem dL_isSo_331 : decode cL_isSo 331 = .ok (.iconst 0, 1) := by decide +kernel
theorem dL_isSo_332 : decode cL_isSo 332 = .ok (.istore 10, 2) := by decide +kernel
theorem dL_isSo_334 : decode cL_isSo 334 = .ok (.iload 10, 2) := by decide +kernel
theorem dL_isSo_336 : decode cL_isSo 336 = .ok (.iconst 4, 1) := by decide +kernel
theorem dL_isSo_337 : decode cL_isSo 337 = .ok (.if_icmp .ge 188, 3) := by decide +kernel
theorem dL_isSo_340 : decode cL_isSo 340 = .ok (.iload 9, 2) := by decide +kernel
theorem dL_isSo_342 : decode cL_isSo 342 = .ok (.ifCond .eq 183, 3) := by decide +kernel
theorem dL_isSo_345 : decode cL_isSo 345 = .ok (.aload 7, 2) := by decide +kernel
theorem dL_isSo_347 : decode cL_isSo 347 = .ok (.iconst 2, 1) := by decide +kernel
theorem dL_isSo_348 : decode cL_isSo 348 = .ok (.iaload, 1) := by decide +kernel
theorem dL_isSo_349 : decode cL_isSo 349 = .ok (.ifCond .le 176, 3) := by decide +kernel
theorem dL_isSo_352 : decode cL_isSo 352 = .ok (.aload 7, 2) := by decide +kernel
theorem dL_isSo_354 : decode cL_isSo 354 = .ok (.iconst 3, 1) := by decide +kernel
theorem dL_isSo_355 : decode cL_isSo 355 = .ok (.iaload, 1) := by decide +kernel
theorem dL_isSo_356 : decode cL_isSo 356 = .ok (.ifCond .eq 9, 3) := by decide +kernel
theorem dL_isSo_359 : decode cL_isSo 359 = .ok (.iload 10, 2) := by decide +kernel
theorem dL_isSo_361 : decode cL_isSo 361 = .ok (.iconst 2, 1) := by decide +kernel
theorem dL_isSo_362 : decode cL_isSo 362 = .ok (.if_icmp .le 49, 3) := by decide +kernel
theorem dL_isSo_365 : decode cL_isSo 365 = .ok (.iload_n 1, 1) := by decide +kernel
theorem dL_isSo_366 : decode cL_isSo 366 = .ok (.iload 10, 2) := by decide +kernel
theorem dL_isSo_368 : decode cL_isSo 368 = .ok (.ishr, 1) := by decide +kernel
theorem dL_isSo_369 : decode cL_isSo 369 = .ok (.bipush 8, 2) := by decide +kernel
theorem dL_isSo_371 : decode cL_isSo 371 = .ok (.invokestatic 58, 3) := by decide +kernel
theorem dL_isSo_374 : decode cL_isSo 374 = .ok (.bipush 8, 2) := by decide +kernel
theorem dL_isSo_376 : decode cL_isSo 376 = .ok (.iload_n 1, 1) := by decide +kernel
theorem dL_isSo_377 : decode cL_isSo 377 = .ok (.iconst 4, 1) := by decide +kernel
theorem dL_isSo_378 : decode cL_isSo 378 = .ok (.iload 10, 2) := by decide +kernel
theorem dL_isSo_380 : decode cL_isSo 380 = .ok (.iadd, 1) := by decide +kernel
theorem dL_isSo_381 : decode cL_isSo 381 = .ok (.ishr, 1) := by decide +kernel
theorem dL_isSo_382 : decode cL_isSo 382 = .ok (.aload 7, 2) := by decide +kernel
theorem dL_isSo_384 : decode cL_isSo 384 = .ok (.iconst 2, 1) := by decide +kernel
theorem dL_isSo_385 : decode cL_isSo 385 = .ok (.iaload, 1) := by decide +kernel
theorem dL_isSo_386 : decode cL_isSo 386 = .ok (.invokestatic 58, 3) := by decide +kernel
theorem dL_isSo_389 : decode cL_isSo 389 = .ok (.imul, 1) := by decide +kernel
theorem dL_isSo_390 : decode cL_isSo 390 = .ok (.iadd, 1) := by decide +kernel
theorem dL_isSo_391 : decode cL_isSo 391 = .ok (.bipush 64, 2) := by decide +kernel
theorem dL_isSo_393 : decode cL_isSo 393 = .ok (.iload_n 1, 1) := by decide +kernel
theorem dL_isSo_394 : decode cL_isSo 394 = .ok (.bipush 7, 2) := by decide +kernel
theorem dL_isSo_396 : decode cL_isSo 396 = .ok (.ishr, 1) := by decide +kernel
theorem dL_isSo_397 : decode cL_isSo 397 = .ok (.aload 7, 2) := by decide +kernel
theorem dL_isSo_399 : decode cL_isSo 399 = .ok (.iconst 0, 1) := by decide +kernel
theorem dL_isSo_400 : decode cL_isSo 400 = .ok (.iaload, 1) := by decide +kernel
theorem dL_isSo_401 : decode cL_isSo 401 = .ok (.iconst 2, 1) := by decide +kernel
theorem dL_isSo_402 : decode cL_isSo 402 = .ok (.iadd, 1) := by decide +kernel
theorem dL_isSo_403 : decode cL_isSo 403 = .ok (.invokestatic 58, 3) := by decide +kernel
theorem dL_isSo_406 : decode cL_isSo 406 = .ok (.imul, 1) := by decide +kernel
theorem dL_isSo_407 : decode cL_isSo 407 = .ok (.iadd, 1) := by decide +kernel
theorem dL_isSo_408 : decode cL_isSo 408 = .ok (.goto 19, 3) := by decide +kernel
theorem dL_isSo_411 : decode cL_isSo 411 = .ok (.aload 5, 2) := by decide +kernel
theorem dL_isSo_413 : decode cL_isSo 413 = .ok (.iload_n 1, 1) := by decide +kernel
theorem dL_isSo_414 : decode cL_isSo 414 = .ok (.iconst 3, 1) := by decide +kernel
theorem dL_isSo_415 : decode cL_isSo 415 = .ok (.iload 10, 2) := by decide +kernel
theorem dL_isSo_417 : decode cL_isSo 417 = .ok (.imul, 1) := by decide +kernel
theorem dL_isSo_418 : decode cL_isSo 418 = .ok (.ishr, 1) := by decide +kernel
theorem dL_isSo_419 : decode cL_isSo 419 = .ok (.aload 7, 2) := by decide +kernel
theorem dL_isSo_421 : decode cL_isSo 421 = .ok (.iconst 3, 1) := by decide +kernel
theorem dL_isSo_422 : decode cL_isSo 422 = .ok (.iaload, 1) := by decide +kernel
theorem dL_isSo_423 : decode cL_isSo 423 = .ok (.invokestatic 58, 3) := by decide +kernel
theorem dL_isSo_426 : decode cL_isSo 426 = .ok (.iaload, 1) := by decide +kernel
theorem dL_isSo_427 : decode cL_isSo 427 = .ok (.istore 11, 2) := by decide +kernel
theorem dL_isSo_429 : decode cL_isSo 429 = .ok (.iload 11, 2) := by decide +kernel
theorem dL_isSo_431 : decode cL_isSo 431 = .ok (.bipush 8, 2) := by decide +kernel
theorem dL_isSo_433 : decode cL_isSo 433 = .ok (.irem, 1) := by decide +kernel
theorem dL_isSo_434 : decode cL_isSo 434 = .ok (.iload 11, 2) := by decide +kernel
theorem dL_isSo_436 : decode cL_isSo 436 = .ok (.bipush 8, 2) := by decide +kernel
theorem dL_isSo_438 : decode cL_isSo 438 = .ok (.idiv, 1) := by decide +kernel
theorem dL_isSo_439 : decode cL_isSo 439 = .ok (.bipush 8, 2) := by decide +kernel
theorem dL_isSo_441 : decode cL_isSo 441 = .ok (.irem, 1) := by decide +kernel
theorem dL_isSo_442 : decode cL_isSo 442 = .ok (.iload 11, 2) := by decide +kernel
theorem dL_isSo_444 : decode cL_isSo 444 = .ok (.bipush 64, 2) := by decide +kernel
theorem dL_isSo_446 : decode cL_isSo 446 = .ok (.idiv, 1) := by decide +kernel
theorem dL_isSo_447 : decode cL_isSo 447 = .ok (.aload 5, 2) := by decide +kernel
theorem dL_isSo_449 : decode cL_isSo 449 = .ok (.aload 6, 2) := by decide +kernel
theorem dL_isSo_451 : decode cL_isSo 451 = .ok (.aload 7, 2) := by decide +kernel
theorem dL_isSo_453 : decode cL_isSo 453 = .ok (.invokestatic 34, 3) := by decide +kernel
theorem dL_isSo_456 : decode cL_isSo 456 = .ok (.istore 12, 2) := by decide +kernel
theorem dL_isSo_458 : decode cL_isSo 458 = .ok (.aload_n 0, 1) := by decide +kernel
theorem dL_isSo_459 : decode cL_isSo 459 = .ok (.iload 11, 2) := by decide +kernel
theorem dL_isSo_461 : decode cL_isSo 461 = .ok (.bipush 8, 2) := by decide +kernel
theorem dL_isSo_463 : decode cL_isSo 463 = .ok (.irem, 1) := by decide +kernel
theorem dL_isSo_464 : decode cL_isSo 464 = .ok (.iload 11, 2) := by decide +kernel
theorem dL_isSo_466 : decode cL_isSo 466 = .ok (.bipush 8, 2) := by decide +kernel
theorem dL_isSo_468 : decode cL_isSo 468 = .ok (.idiv, 1) := by decide +kernel
theorem dL_isSo_469 : decode cL_isSo 469 = .ok (.bipush 8, 2) := by decide +kernel
theorem dL_isSo_471 : decode cL_isSo 471 = .ok (.irem, 1) := by decide +kernel
theorem dL_isSo_472 : decode cL_isSo 472 = .ok (.iload 11, 2) := by decide +kernel
theorem dL_isSo_474 : decode cL_isSo 474 = .ok (.bipush 64, 2) := by decide +kernel
theorem dL_isSo_476 : decode cL_isSo 476 = .ok (.idiv, 1) := by decide +kernel
theorem dL_isSo_477 : decode cL_isSo 477 = .ok (.invokevirtual 80, 3) := by decide +kernel
theorem dL_isSo_480 : decode cL_isSo 480 = .ok (.iload 12, 2) := by decide +kernel
theorem dL_isSo_482 : decode cL_isSo 482 = .ok (.if_icmp .ne 34, 3) := by decide +kernel
theorem dL_isSo_485 : decode cL_isSo 485 = .ok (.aload_n 0, 1) := by decide +kernel
theorem dL_isSo_486 : decode cL_isSo 486 = .ok (.iload 11, 2) := by decide +kernel
theorem dL_isSo_488 : decode cL_isSo 488 = .ok (.bipush 8, 2) := by decide +kernel
theorem dL_isSo_490 : decode cL_isSo 490 = .ok (.irem, 1) := by decide +kernel
theorem dL_isSo_491 : decode cL_isSo 491 = .ok (.iload 11, 2) := by decide +kernel
theorem dL_isSo_493 : decode cL_isSo 493 = .ok (.bipush 8, 2) := by decide +kernel
theorem dL_isSo_495 : decode cL_isSo 495 = .ok (.idiv, 1) := by decide +kernel
theorem dL_isSo_496 : decode cL_isSo 496 = .ok (.bipush 8, 2) := by decide +kernel
theorem dL_isSo_498 : decode cL_isSo 498 = .ok (.irem, 1) := by decide +kernel
theorem dL_isSo_499 : decode cL_isSo 499 = .ok (.iload 11, 2) := by decide +kernel
theorem dL_isSo_501 : decode cL_isSo 501 = .ok (.bipush 64, 2) := by decide +kernel
theorem dL_isSo_503 : decode cL_isSo 503 = .ok (.idiv, 1) := by decide +kernel
theorem dL_isSo_504 : decode cL_isSo 504 = .ok (.invokevirtual 83, 3) := by decide +kernel
theorem dL_isSo_507 : decode cL_isSo 507 = .ok (.iload 12, 2) := by decide +kernel
theorem dL_isSo_509 : decode cL_isSo 509 = .ok (.if_icmp .ne 7, 3) := by decide +kernel
theorem dL_isSo_512 : decode cL_isSo 512 = .ok (.iconst 1, 1) := by decide +kernel
theorem dL_isSo_513 : decode cL_isSo 513 = .ok (.goto 4, 3) := by decide +kernel
theorem dL_isSo_516 : decode cL_isSo 516 = .ok (.iconst 0, 1) := by decide +kernel
theorem dL_isSo_517 : decode cL_isSo 517 = .ok (.istore 9, 2) := by decide +kernel
theorem dL_isSo_519 : decode cL_isSo 519 = .ok (.iinc 10 1, 3) := by decide +kernel
theorem dL_isSo_522 : decode cL_isSo 522 = .ok (.goto (-188), 3) := by decide +kernel
theorem dL_isSo_525 : decode cL_isSo 525 = .ok (.iload 9, 2) := by decide +kernel
theorem dL_isSo_527 : decode cL_isSo 527 = .ok (.ireturn, 1) := by decide +kernel
theorem dL_streets_0 : decode cL_streets 0 = .ok (.iload_n 2, 1) := by decide +kernel
theorem dL_streets_1 : decode cL_streets 1 = .ok (.bipush 8, 2) := by decide +kernel
theorem dL_streets_3 : decode cL_streets 3 = .ok (.invokestatic 58, 3) := by decide +kernel
theorem dL_streets_6 : decode cL_streets 6 = .ok (.istore 4, 2) := by decide +kernel
theorem dL_streets_8 : decode cL_streets 8 = .ok (.iload_n 1, 1) := by decide +kernel
theorem dL_streets_9 : decode cL_streets 9 = .ok (.ifCond .ne 104, 3) := by decide +kernel
theorem dL_streets_12 : decode cL_streets 12 = .ok (.iconst 1, 1) := by decide +kernel
theorem dL_streets_13 : decode cL_streets 13 = .ok (.iload_n 2, 1) := by decide +kernel
theorem dL_streets_14 : decode cL_streets 14 = .ok (.iconst 3, 1) := by decide +kernel
theorem dL_streets_15 : decode cL_streets 15 = .ok (.ishr, 1) := by decide +kernel
theorem dL_streets_16 : decode cL_streets 16 = .ok (.iload_n 2, 1) := by decide +kernel
theorem dL_streets_17 : decode cL_streets 17 = .ok (.bipush 13, 2) := by decide +kernel
theorem dL_streets_19 : decode cL_streets 19 = .ok (.ishr, 1) := by decide +kernel
theorem dL_streets_20 : decode cL_streets 20 = .ok (.iconst 3, 1) := by decide +kernel
theorem dL_streets_21 : decode cL_streets 21 = .ok (.invokestatic 58, 3) := by decide +kernel
theorem dL_streets_24 : decode cL_streets 24 = .ok (.ifCond .ne 9, 3) := by decide +kernel
theorem dL_streets_27 : decode cL_streets 27 = .ok (.sipush 10000, 3) := by decide +kernel
theorem dL_streets_30 : decode cL_streets 30 = .ok (.goto 5, 3) := by decide +kernel
theorem dL_streets_33 : decode cL_streets 33 = .ok (.bipush 9, 2) := by decide +kernel
theorem dL_streets_35 : decode cL_streets 35 = .ok (.invokestatic 58, 3) := by decide +kernel
theorem dL_streets_38 : decode cL_streets 38 = .ok (.iadd, 1) := by decide +kernel
theorem dL_streets_39 : decode cL_streets 39 = .ok (.istore 5, 2) := by decide +kernel
theorem dL_streets_41 : decode cL_streets 41 = .ok (.aload_n 3, 1) := by decide +kernel
theorem dL_streets_42 : decode cL_streets 42 = .ok (.bipush 6, 2) := by decide +kernel
theorem dL_streets_44 : decode cL_streets 44 = .ok (.iload 4, 2) := by decide +kernel
theorem dL_streets_46 : decode cL_streets 46 = .ok (.imul, 1) := by decide +kernel
theorem dL_streets_47 : decode cL_streets 47 = .ok (.iaload, 1) := by decide +kernel
theorem dL_streets_48 : decode cL_streets 48 = .ok (.iload 5, 2) := by decide +kernel
theorem dL_streets_50 : decode cL_streets 50 = .ok (.iadd, 1) := by decide +kernel
theorem dL_streets_51 : decode cL_streets 51 = .ok (.ldc 86, 2) := by decide +kernel
theorem dL_streets_53 : decode cL_streets 53 = .ok (.if_icmp .gt 7, 3) := by decide +kernel
theorem dL_streets_56 : decode cL_streets 56 = .ok (.iconst 1, 1) := by decide +kernel
theorem dL_streets_57 : decode cL_streets 57 = .ok (.goto 4, 3) := by decide +kernel
theorem dL_streets_60 : decode cL_streets 60 = .ok (.iconst 0, 1) := by decide +kernel
theorem dL_streets_61 : decode cL_streets 61 = .ok (.istore 6, 2) := by decide +kernel
theorem dL_streets_63 : decode cL_streets 63 = .ok (.aload_n 3, 1) := by decide +kernel
theorem dL_streets_64 : decode cL_streets 64 = .ok (.bipush 6, 2) := by decide +kernel
theorem dL_streets_66 : decode cL_streets 66 = .ok (.iload 4, 2) := by decide +kernel
theorem dL_streets_68 : decode cL_streets 68 = .ok (.imul, 1) := by decide +kernel
theorem dL_streets_69 : decode cL_streets 69 = .ok (.dup2, 1) := by decide +kernel
theorem dL_streets_70 : decode cL_streets 70 = .ok (.iaload, 1) := by decide +kernel
theorem dL_streets_71 : decode cL_streets 71 = .ok (.iload 6, 2) := by decide +kernel
theorem dL_streets_73 : decode cL_streets 73 = .ok (.ifCond .eq 8, 3) := by decide +kernel
theorem dL_streets_76 : decode cL_streets 76 = .ok (.iload 5, 2) := by decide +kernel
theorem dL_streets_78 : decode cL_streets 78 = .ok (.goto 4, 3) := by decide +kernel
theorem dL_streets_81 : decode cL_streets 81 = .ok (.iconst 0, 1) := by decide +kernel
theorem dL_streets_82 : decode cL_streets 82 = .ok (.iadd, 1) := by decide +kernel
theorem dL_streets_83 : decode cL_streets 83 = .ok (.iastore, 1) := by decide +kernel
theorem dL_streets_84 : decode cL_streets 84 = .ok (.iload 6, 2) := by decide +kernel
theorem dL_streets_86 : decode cL_streets 86 = .ok (.ifCond .eq 21, 3) := by decide +kernel
theorem dL_streets_89 : decode cL_streets 89 = .ok (.aload_n 0, 1) := by decide +kernel
theorem dL_streets_90 : decode cL_streets 90 = .ok (.iload 4, 2) := by decide +kernel
theorem dL_streets_92 : decode cL_streets 92 = .ok (.iload 5, 2) := by decide +kernel
theorem dL_streets_94 : decode cL_streets 94 = .ok (.invokevirtual 87, 3) := by decide +kernel
theorem dL_streets_97 : decode cL_streets 97 = .ok (.aload_n 3, 1) := by decide +kernel
theorem dL_streets_98 : decode cL_streets 98 = .ok (.bipush 6, 2) := by decide +kernel
theorem dL_streets_100 : decode cL_streets 100 = .ok (.iload 4, 2) := by decide +kernel
theorem dL_streets_102 : decode cL_streets 102 = .ok (.imul, 1) := by decide +kernel
theorem dL_streets_103 : decode cL_streets 103 = .ok (.iaload, 1) := by decide +kernel
theorem dL_streets_104 : decode cL_streets 104 = .ok (.if_icmp .ne 7, 3) := by decide +kernel
theorem dL_streets_107 : decode cL_streets 107 = .ok (.iconst 1, 1) := by decide +kernel
theorem dL_streets_108 : decode cL_streets 108 = .ok (.goto 4, 3) := by decide +kernel
theorem dL_streets_111 : decode cL_streets 111 = .ok (.iconst 0, 1) := by decide +kernel
theorem dL_streets_112 : decode cL_streets 112 = .ok (.ireturn, 1) := by decide +kernel
theorem dL_streets_113 : decode cL_streets 113 = .ok (.iload_n 1, 1) := by decide +kernel
theorem dL_streets_114 : decode cL_streets 114 = .ok (.iconst 1, 1) := by decide +kernel
theorem dL_streets_115 : decode cL_streets 115 = .ok (.if_icmp .ne 107, 3) := by decide +kernel
theorem dL_streets_118 : decode cL_streets 118 = .ok (.aload_n 3, 1) := by decide +kernel
theorem dL_streets_119 : decode cL_streets 119 = .ok (.bipush 6, 2) := by decide +kernel
theorem dL_streets_121 : decode cL_streets 121 = .ok (.iload 4, 2) := by decide +kernel
theorem dL_streets_123 : decode cL_streets 123 = .ok (.imul, 1) := by decide +kernel
theorem dL_streets_124 : decode cL_streets 124 = .ok (.iconst 1, 1) := by decide +kernel
theorem dL_streets_125 : decode cL_streets 125 = .ok (.iadd, 1) := by decide +kernel
theorem dL_streets_126 : decode cL_streets 126 = .ok (.iaload, 1) := by decide +kernel
theorem dL_streets_127 : decode cL_streets 127 = .ok (.istore 5, 2) := by decide +kernel
theorem dL_streets_129 : decode cL_streets 129 = .ok (.aload_n 3, 1) := by decide +kernel
theorem dL_streets_130 : decode cL_streets 130 = .ok (.bipush 6, 2) := by decide +kernel
theorem dL_streets_132 : decode cL_streets 132 = .ok (.iload 4, 2) := by decide +kernel
theorem dL_streets_134 : decode cL_streets 134 = .ok (.imul, 1) := by decide +kernel
theorem dL_streets_135 : decode cL_streets 135 = .ok (.iconst 1, 1) := by decide +kernel
theorem dL_streets_136 : decode cL_streets 136 = .ok (.iadd, 1) := by decide +kernel
theorem dL_streets_137 : decode cL_streets 137 = .ok (.iload_n 2, 1) := by decide +kernel
theorem dL_streets_138 : decode cL_streets 138 = .ok (.iconst 3, 1) := by decide +kernel
theorem dL_streets_139 : decode cL_streets 139 = .ok (.ishr, 1) := by decide +kernel
theorem dL_streets_140 : decode cL_streets 140 = .ok (.iload_n 2, 1) := by decide +kernel
theorem dL_streets_141 : decode cL_streets 141 = .ok (.bipush 13, 2) := by decide +kernel
theorem dL_streets_143 : decode cL_streets 143 = .ok (.ishr, 1) := by decide +kernel
theorem dL_streets_144 : decode cL_streets 144 = .ok (.iconst 3, 1) := by decide +kernel
theorem dL_streets_145 : decode cL_streets 145 = .ok (.invokestatic 58, 3) := by decide +kernel
theorem dL_streets_148 : decode cL_streets 148 = .ok (.ifCond .ne 8, 3) := by decide +kernel
theorem dL_streets_151 : decode cL_streets 151 = .ok (.bipush 51, 2) := by decide +kernel
theorem dL_streets_153 : decode cL_streets 153 = .ok (.goto 4, 3) := by decide +kernel
theorem dL_streets_156 : decode cL_streets 156 = .ok (.iconst 5, 1) := by decide +kernel
theorem dL_streets_157 : decode cL_streets 157 = .ok (.invokestatic 58, 3) := by decide +kernel
theorem dL_streets_160 : decode cL_streets 160 = .ok (.iastore, 1) := by decide +kernel
theorem dL_streets_161 : decode cL_streets 161 = .ok (.aload_n 3, 1) := by decide +kernel
theorem dL_streets_162 : decode cL_streets 162 = .ok (.bipush 6, 2) := by decide +kernel
theorem dL_streets_164 : decode cL_streets 164 = .ok (.iload 4, 2) := by decide +kernel
theorem dL_streets_166 : decode cL_streets 166 = .ok (.imul, 1) := by decide +kernel
theorem dL_streets_167 : decode cL_streets 167 = .ok (.iconst 2, 1) := by decide +kernel
theorem dL_streets_168 : decode cL_streets 168 = .ok (.iadd, 1) := by decide +kernel
theorem dL_streets_169 : decode cL_streets 169 = .ok (.iload_n 2, 1) := by decide +kernel
theorem dL_streets_170 : decode cL_streets 170 = .ok (.bipush 8, 2) := by decide +kernel
theorem dL_streets_172 : decode cL_streets 172 = .ok (.ishr, 1) := by decide +kernel
theorem dL_streets_173 : decode cL_streets 173 = .ok (.iconst 2, 1) := by decide +kernel
theorem dL_streets_174 : decode cL_streets 174 = .ok (.invokestatic 58, 3) := by decide +kernel
theorem dL_streets_177 : decode cL_streets 177 = .ok (.iastore, 1) := by decide +kernel
theorem dL_streets_178 : decode cL_streets 178 = .ok (.aload_n 0, 1) := by decide +kernel
theorem dL_streets_179 : decode cL_streets 179 = .ok (.iload 4, 2) := by decide +kernel
theorem dL_streets_181 : decode cL_streets 181 = .ok (.aload_n 3, 1) := by decide +kernel
theorem dL_streets_182 : decode cL_streets 182 = .ok (.bipush 6, 2) := by decide +kernel
theorem dL_streets_184 : decode cL_streets 184 = .ok (.iload 4, 2) := by decide +kernel
theorem dL_streets_186 : decode cL_streets 186 = .ok (.imul, 1) := by decide +kernel
theorem dL_streets_187 : decode cL_streets 187 = .ok (.iconst 1, 1) := by decide +kernel
theorem dL_streets_188 : decode cL_streets 188 = .ok (.iadd, 1) := by decide +kernel
theorem dL_streets_189 : decode cL_streets 189 = .ok (.iaload, 1) := by decide +kernel
theorem dL_streets_190 : decode cL_streets 190 = .ok (.aload_n 3, 1) := by decide +kernel
theorem dL_streets_191 : decode cL_streets 191 = .ok (.bipush 6, 2) := by decide +kernel
theorem dL_streets_193 : decode cL_streets 193 = .ok (.iload 4, 2) := by decide +kernel
theorem dL_streets_195 : decode cL_streets 195 = .ok (.imul, 1) := by decide +kernel
theorem dL_streets_196 : decode cL_streets 196 = .ok (.iconst 2, 1) := by decide +kernel
theorem dL_streets_197 : decode cL_streets 197 = .ok (.iadd, 1) := by decide +kernel
theorem dL_streets_198 : decode cL_streets 198 = .ok (.iaload, 1) := by decide +kernel
theorem dL_streets_199 : decode cL_streets 199 = .ok (.iconst 1, 1) := by decide +kernel
theorem dL_streets_200 : decode cL_streets 200 = .ok (.if_icmp .ne 7, 3) := by decide +kernel
theorem dL_streets_203 : decode cL_streets 203 = .ok (.iconst 1, 1) := by decide +kernel
theorem dL_streets_204 : decode cL_streets 204 = .ok (.goto 4, 3) := by decide +kernel
theorem dL_streets_207 : decode cL_streets 207 = .ok (.iconst 0, 1) := by decide +kernel
theorem dL_streets_208 : decode cL_streets 208 = .ok (.invokevirtual 90, 3) := by decide +kernel
theorem dL_streets_211 : decode cL_streets 211 = .ok (.iload 5, 2) := by decide +kernel
theorem dL_streets_213 : decode cL_streets 213 = .ok (.if_icmp .ne 7, 3) := by decide +kernel
theorem dL_streets_216 : decode cL_streets 216 = .ok (.iconst 1, 1) := by decide +kernel
theorem dL_streets_217 : decode cL_streets 217 = .ok (.goto 4, 3) := by decide +kernel
theorem dL_streets_220 : decode cL_streets 220 = .ok (.iconst 0, 1) := by decide +kernel
theorem dL_streets_221 : decode cL_streets 221 = .ok (.ireturn, 1) := by decide +kernel
theorem dL_streets_222 : decode cL_streets 222 = .ok (.iload_n 2, 1) := by decide +kernel
theorem dL_streets_223 : decode cL_streets 223 = .ok (.iconst 3, 1) := by decide +kernel
theorem dL_streets_224 : decode cL_streets 224 = .ok (.ishr, 1) := by decide +kernel
theorem dL_streets_225 : decode cL_streets 225 = .ok (.iconst 3, 1) := by decide +kernel
theorem dL_streets_226 : decode cL_streets 226 = .ok (.invokestatic 58, 3) := by decide +kernel
theorem dL_streets_229 : decode cL_streets 229 = .ok (.istore 5, 2) := by decide +kernel
theorem dL_streets_231 : decode cL_streets 231 = .ok (.aload_n 3, 1) := by decide +kernel
theorem dL_streets_232 : decode cL_streets 232 = .ok (.bipush 6, 2) := by decide +kernel
theorem dL_streets_234 : decode cL_streets 234 = .ok (.iload 4, 2) := by decide +kernel
theorem dL_streets_236 : decode cL_streets 236 = .ok (.imul, 1) := by decide +kernel
theorem dL_streets_237 : decode cL_streets 237 = .ok (.iconst 3, 1) := by decide +kernel
theorem dL_streets_238 : decode cL_streets 238 = .ok (.iadd, 1) := by decide +kernel
theorem dL_streets_239 : decode cL_streets 239 = .ok (.iload 5, 2) := by decide +kernel
theorem dL_streets_241 : decode cL_streets 241 = .ok (.iadd, 1) := by decide +kernel
theorem dL_streets_242 : decode cL_streets 242 = .ok (.iconst 1, 1) := by decide +kernel
theorem dL_streets_243 : decode cL_streets 243 = .ok (.iload_n 2, 1) := by decide +kernel
theorem dL_streets_244 : decode cL_streets 244 = .ok (.iconst 5, 1) := by decide +kernel
theorem dL_streets_245 : decode cL_streets 245 = .ok (.ishr, 1) := by decide +kernel
theorem dL_streets_246 : decode cL_streets 246 = .ok (.iload_n 2, 1) := by decide +kernel
theorem dL_streets_247 : decode cL_streets 247 = .ok (.bipush 13, 2) := by decide +kernel
theorem dL_streets_249 : decode cL_streets 249 = .ok (.ishr, 1) := by decide +kernel
theorem dL_streets_250 : decode cL_streets 250 = .ok (.iconst 2, 1) := by decide +kernel
theorem dL_streets_251 : decode cL_streets 251 = .ok (.invokestatic 58, 3) := by decide +kernel
theorem dL_streets_254 : decode cL_streets 254 = .ok (.ifCond .ne 8, 3) := by decide +kernel
theorem dL_streets_257 : decode cL_streets 257 = .ok (.bipush 30, 2) := by decide +kernel
theorem dL_streets_259 : decode cL_streets 259 = .ok (.goto 4, 3) := by decide +kernel
theorem dL_streets_262 : decode cL_streets 262 = .ok (.iconst 4, 1) := by decide +kernel
theorem dL_streets_263 : decode cL_streets 263 = .ok (.invokestatic 58, 3) := by decide +kernel
theorem dL_streets_266 : decode cL_streets 266 = .ok (.iadd, 1) := by decide +kernel
theorem dL_streets_267 : decode cL_streets 267 = .ok (.iastore, 1) := by decide +kernel
theorem dL_streets_268 : decode cL_streets 268 = .ok (.aload_n 0, 1) := by decide +kernel
theorem dL_streets_269 : decode cL_streets 269 = .ok (.iload 4, 2) := by decide +kernel
theorem dL_streets_271 : decode cL_streets 271 = .ok (.iload 5, 2) := by decide +kernel
theorem dL_streets_273 : decode cL_streets 273 = .ok (.aload_n 3, 1) := by decide +kernel
theorem dL_streets_274 : decode cL_streets 274 = .ok (.bipush 6, 2) := by decide +kernel
theorem dL_streets_276 : decode cL_streets 276 = .ok (.iload 4, 2) := by decide +kernel
theorem dL_streets_278 : decode cL_streets 278 = .ok (.imul, 1) := by decide +kernel
theorem dL_streets_279 : decode cL_streets 279 = .ok (.iconst 3, 1) := by decide +kernel
theorem dL_streets_280 : decode cL_streets 280 = .ok (.iadd, 1) := by decide +kernel
theorem dL_streets_281 : decode cL_streets 281 = .ok (.iload 5, 2) := by decide +kernel
theorem dL_streets_283 : decode cL_streets 283 = .ok (.iadd, 1) := by decide +kernel
theorem dL_streets_284 : decode cL_streets 284 = .ok (.iaload, 1) := by decide +kernel
theorem dL_streets_285 : decode cL_streets 285 = .ok (.invokevirtual 94, 3) := by decide +kernel
theorem dL_streets_288 : decode cL_streets 288 = .ok (.iload 4, 2) := by decide +kernel
theorem dL_streets_290 : decode cL_streets 290 = .ok (.aload_n 3, 1) := by decide +kernel
theorem dL_streets_291 : decode cL_streets 291 = .ok (.invokestatic 38, 3) := by decide +kernel
theorem dL_streets_294 : decode cL_streets 294 = .ok (.if_icmp .ne 7, 3) := by decide +kernel
theorem dL_streets_297 : decode cL_streets 297 = .ok (.iconst 1, 1) := by decide +kernel
theorem dL_streets_298 : decode cL_streets 298 = .ok (.goto 4, 3) := by decide +kernel
theorem dL_streets_301 : decode cL_streets 301 = .ok (.iconst 0, 1) := by decide +kernel
theorem dL_streets_302 : decode cL_streets 302 = .ok (.ireturn, 1) := by decide +kernel
theorem dL_minutes_0 : decode cL_minutes 0 = .ok (.iconst 0, 1) := by decide +kernel
theorem dL_minutes_1 : decode cL_minutes 1 = .ok (.istore 7, 2) := by decide +kernel
theorem dL_minutes_3 : decode cL_minutes 3 = .ok (.iconst 0, 1) := by decide +kernel
theorem dL_minutes_4 : decode cL_minutes 4 = .ok (.istore 8, 2) := by decide +kernel
theorem dL_minutes_6 : decode cL_minutes 6 = .ok (.iload 8, 2) := by decide +kernel
theorem dL_minutes_8 : decode cL_minutes 8 = .ok (.iload_n 0, 1) := by decide +kernel
theorem dL_minutes_9 : decode cL_minutes 9 = .ok (.if_icmp .ge 129, 3) := by decide +kernel
theorem dL_minutes_12 : decode cL_minutes 12 = .ok (.iconst 0, 1) := by decide +kernel
theorem dL_minutes_13 : decode cL_minutes 13 = .ok (.istore 9, 2) := by decide +kernel
theorem dL_minutes_15 : decode cL_minutes 15 = .ok (.iload 9, 2) := by decide +kernel
theorem dL_minutes_17 : decode cL_minutes 17 = .ok (.aload 6, 2) := by decide +kernel
theorem dL_minutes_19 : decode cL_minutes 19 = .ok (.iconst 2, 1) := by decide +kernel
theorem dL_minutes_20 : decode cL_minutes 20 = .ok (.iaload, 1) := by decide +kernel
theorem dL_minutes_21 : decode cL_minutes 21 = .ok (.if_icmp .ge 28, 3) := by decide +kernel
theorem dL_minutes_24 : decode cL_minutes 24 = .ok (.aload_n 3, 1) := by decide +kernel
theorem dL_minutes_25 : decode cL_minutes 25 = .ok (.bipush 6, 2) := by decide +kernel
theorem dL_minutes_27 : decode cL_minutes 27 = .ok (.iload 9, 2) := by decide +kernel
theorem dL_minutes_29 : decode cL_minutes 29 = .ok (.imul, 1) := by decide +kernel
theorem dL_minutes_30 : decode cL_minutes 30 = .ok (.iconst 2, 1) := by decide +kernel
theorem dL_minutes_31 : decode cL_minutes 31 = .ok (.iadd, 1) := by decide +kernel
theorem dL_minutes_32 : decode cL_minutes 32 = .ok (.iaload, 1) := by decide +kernel
theorem dL_minutes_33 : decode cL_minutes 33 = .ok (.ifCond .ne 10, 3) := by decide +kernel
theorem dL_minutes_36 : decode cL_minutes 36 = .ok (.iload 9, 2) := by decide +kernel
theorem dL_minutes_38 : decode cL_minutes 38 = .ok (.aload_n 2, 1) := by decide +kernel
theorem dL_minutes_39 : decode cL_minutes 39 = .ok (.aload_n 3, 1) := by decide +kernel
theorem dL_minutes_40 : decode cL_minutes 40 = .ok (.invokestatic 98, 3) := by decide +kernel
theorem dL_minutes_43 : decode cL_minutes 43 = .ok (.iinc 9 1, 3) := by decide +kernel
theorem dL_minutes_46 : decode cL_minutes 46 = .ok (.goto (-31), 3) := by decide +kernel
theorem dL_minutes_49 : decode cL_minutes 49 = .ok (.iconst 0, 1) := by decide +kernel
theorem dL_minutes_50 : decode cL_minutes 50 = .ok (.istore 9, 2) := by decide +kernel
theorem dL_minutes_52 : decode cL_minutes 52 = .ok (.iload 9, 2) := by decide +kernel
theorem dL_minutes_54 : decode cL_minutes 54 = .ok (.aload 6, 2) := by decide +kernel
theorem dL_minutes_56 : decode cL_minutes 56 = .ok (.iconst 2, 1) := by decide +kernel
theorem dL_minutes_57 : decode cL_minutes 57 = .ok (.iaload, 1) := by decide +kernel
theorem dL_minutes_58 : decode cL_minutes 58 = .ok (.if_icmp .ge 74, 3) := by decide +kernel
theorem dL_minutes_61 : decode cL_minutes 61 = .ok (.aload_n 3, 1) := by decide +kernel
theorem dL_minutes_62 : decode cL_minutes 62 = .ok (.bipush 6, 2) := by decide +kernel
theorem dL_minutes_64 : decode cL_minutes 64 = .ok (.iload 9, 2) := by decide +kernel
theorem dL_minutes_66 : decode cL_minutes 66 = .ok (.imul, 1) := by decide +kernel
theorem dL_minutes_67 : decode cL_minutes 67 = .ok (.iconst 2, 1) := by decide +kernel
theorem dL_minutes_68 : decode cL_minutes 68 = .ok (.iadd, 1) := by decide +kernel
theorem dL_minutes_69 : decode cL_minutes 69 = .ok (.iaload, 1) := by decide +kernel
theorem dL_minutes_70 : decode cL_minutes 70 = .ok (.iconst 1, 1) := by decide +kernel
theorem dL_minutes_71 : decode cL_minutes 71 = .ok (.if_icmp .eq 16, 3) := by decide +kernel
theorem dL_minutes_74 : decode cL_minutes 74 = .ok (.aload_n 3, 1) := by decide +kernel
theorem dL_minutes_75 : decode cL_minutes 75 = .ok (.bipush 6, 2) := by decide +kernel
theorem dL_minutes_77 : decode cL_minutes 77 = .ok (.iload 9, 2) := by decide +kernel
theorem dL_minutes_79 : decode cL_minutes 79 = .ok (.imul, 1) := by decide +kernel
theorem dL_minutes_80 : decode cL_minutes 80 = .ok (.iconst 2, 1) := by decide +kernel
theorem dL_minutes_81 : decode cL_minutes 81 = .ok (.iadd, 1) := by decide +kernel
theorem dL_minutes_82 : decode cL_minutes 82 = .ok (.iaload, 1) := by decide +kernel
theorem dL_minutes_83 : decode cL_minutes 83 = .ok (.iconst 2, 1) := by decide +kernel
theorem dL_minutes_84 : decode cL_minutes 84 = .ok (.if_icmp .ne 7, 3) := by decide +kernel
theorem dL_minutes_87 : decode cL_minutes 87 = .ok (.iconst 1, 1) := by decide +kernel
theorem dL_minutes_88 : decode cL_minutes 88 = .ok (.goto 4, 3) := by decide +kernel
theorem dL_minutes_91 : decode cL_minutes 91 = .ok (.iconst 0, 1) := by decide +kernel
theorem dL_minutes_92 : decode cL_minutes 92 = .ok (.istore 10, 2) := by decide +kernel
theorem dL_minutes_94 : decode cL_minutes 94 = .ok (.iload 7, 2) := by decide +kernel
theorem dL_minutes_96 : decode cL_minutes 96 = .ok (.iload 10, 2) := by decide +kernel
theorem dL_minutes_98 : decode cL_minutes 98 = .ok (.ifCond .eq 24, 3) := by decide +kernel
theorem dL_minutes_101 : decode cL_minutes 101 = .ok (.iload 9, 2) := by decide +kernel
theorem dL_minutes_103 : decode cL_minutes 103 = .ok (.aload_n 1, 1) := by decide +kernel
theorem dL_minutes_104 : decode cL_minutes 104 = .ok (.aload_n 2, 1) := by decide +kernel
theorem dL_minutes_105 : decode cL_minutes 105 = .ok (.aload_n 3, 1) := by decide +kernel
theorem dL_minutes_106 : decode cL_minutes 106 = .ok (.aload 4, 2) := by decide +kernel
theorem dL_minutes_108 : decode cL_minutes 108 = .ok (.aload 5, 2) := by decide +kernel
theorem dL_minutes_110 : decode cL_minutes 110 = .ok (.aload 6, 2) := by decide +kernel
theorem dL_minutes_112 : decode cL_minutes 112 = .ok (.invokestatic 102, 3) := by decide +kernel
theorem dL_minutes_115 : decode cL_minutes 115 = .ok (.ifCond .eq 7, 3) := by decide +kernel
theorem dL_minutes_118 : decode cL_minutes 118 = .ok (.iconst 1, 1) := by decide +kernel
theorem dL_minutes_119 : decode cL_minutes 119 = .ok (.goto 4, 3) := by decide +kernel
theorem dL_minutes_122 : decode cL_minutes 122 = .ok (.iconst 0, 1) := by decide +kernel
theorem dL_minutes_123 : decode cL_minutes 123 = .ok (.iadd, 1) := by decide +kernel
theorem dL_minutes_124 : decode cL_minutes 124 = .ok (.istore 7, 2) := by decide +kernel
theorem dL_minutes_126 : decode cL_minutes 126 = .ok (.iinc 9 1, 3) := by decide +kernel
theorem dL_minutes_129 : decode cL_minutes 129 = .ok (.goto (-77), 3) := by decide +kernel
theorem dL_minutes_132 : decode cL_minutes 132 = .ok (.iinc 8 1, 3) := by decide +kernel
theorem dL_minutes_135 : decode cL_minutes 135 = .ok (.goto (-129), 3) := by decide +kernel
theorem dL_minutes_138 : decode cL_minutes 138 = .ok (.aload 6, 2) := by decide +kernel
theorem dL_minutes_140 : decode cL_minutes 140 = .ok (.iconst 1, 1) := by decide +kernel
theorem dL_minutes_141 : decode cL_minutes 141 = .ok (.dup2, 1) := by decide +kernel
theorem dL_minutes_142 : decode cL_minutes 142 = .ok (.iaload, 1) := by decide +kernel
theorem dL_minutes_143 : decode cL_minutes 143 = .ok (.iload_n 0, 1) := by decide +kernel
theorem dL_minutes_144 : decode cL_minutes 144 = .ok (.iadd, 1) := by decide +kernel
theorem dL_minutes_145 : decode cL_minutes 145 = .ok (.iastore, 1) := by decide +kernel
theorem dL_minutes_146 : decode cL_minutes 146 = .ok (.iload 7, 2) := by decide +kernel
theorem dL_minutes_148 : decode cL_minutes 148 = .ok (.ireturn, 1) := by decide +kernel
theorem dL_night_0 : decode cL_night 0 = .ok (.iconst 0, 1) := by decide +kernel
theorem dL_night_1 : decode cL_night 1 = .ok (.istore_n 3, 1) := by decide +kernel
theorem dL_night_2 : decode cL_night 2 = .ok (.iload_n 3, 1) := by decide +kernel
theorem dL_night_3 : decode cL_night 3 = .ok (.aload_n 2, 1) := by decide +kernel
theorem dL_night_4 : decode cL_night 4 = .ok (.iconst 2, 1) := by decide +kernel
theorem dL_night_5 : decode cL_night 5 = .ok (.iaload, 1) := by decide +kernel
theorem dL_night_6 : decode cL_night 6 = .ok (.if_icmp .ge 24, 3) := by decide +kernel
theorem dL_night_9 : decode cL_night 9 = .ok (.aload_n 0, 1) := by decide +kernel
theorem dL_night_10 : decode cL_night 10 = .ok (.bipush 6, 2) := by decide +kernel
theorem dL_night_12 : decode cL_night 12 = .ok (.iload_n 3, 1) := by decide +kernel
theorem dL_night_13 : decode cL_night 13 = .ok (.imul, 1) := by decide +kernel
theorem dL_night_14 : decode cL_night 14 = .ok (.iconst 2, 1) := by decide +kernel
theorem dL_night_15 : decode cL_night 15 = .ok (.iadd, 1) := by decide +kernel
theorem dL_night_16 : decode cL_night 16 = .ok (.iaload, 1) := by decide +kernel
theorem dL_night_17 : decode cL_night 17 = .ok (.iconst 3, 1) := by decide +kernel
theorem dL_night_18 : decode cL_night 18 = .ok (.if_icmp .ge 6, 3) := by decide +kernel
theorem dL_night_21 : decode cL_night 21 = .ok (.bipush (-3), 2) := by decide +kernel
theorem dL_night_23 : decode cL_night 23 = .ok (.ireturn, 1) := by decide +kernel
theorem dL_night_24 : decode cL_night 24 = .ok (.iinc 3 1, 3) := by decide +kernel
theorem dL_night_27 : decode cL_night 27 = .ok (.goto (-25), 3) := by decide +kernel
theorem dL_night_30 : decode cL_night 30 = .ok (.iconst 0, 1) := by decide +kernel
theorem dL_night_31 : decode cL_night 31 = .ok (.istore_n 3, 1) := by decide +kernel
theorem dL_night_32 : decode cL_night 32 = .ok (.aload_n 2, 1) := by decide +kernel
theorem dL_night_33 : decode cL_night 33 = .ok (.iconst 0, 1) := by decide +kernel
theorem dL_night_34 : decode cL_night 34 = .ok (.dup2, 1) := by decide +kernel
theorem dL_night_35 : decode cL_night 35 = .ok (.iaload, 1) := by decide +kernel
theorem dL_night_36 : decode cL_night 36 = .ok (.iconst 1, 1) := by decide +kernel
theorem dL_night_37 : decode cL_night 37 = .ok (.iadd, 1) := by decide +kernel
theorem dL_night_38 : decode cL_night 38 = .ok (.iastore, 1) := by decide +kernel
theorem dL_night_39 : decode cL_night 39 = .ok (.aload_n 2, 1) := by decide +kernel
theorem dL_night_40 : decode cL_night 40 = .ok (.iconst 1, 1) := by decide +kernel
theorem dL_night_41 : decode cL_night 41 = .ok (.iconst 0, 1) := by decide +kernel
theorem dL_night_42 : decode cL_night 42 = .ok (.iastore, 1) := by decide +kernel
theorem dL_night_43 : decode cL_night 43 = .ok (.iconst 0, 1) := by decide +kernel
theorem dL_night_44 : decode cL_night 44 = .ok (.istore 4, 2) := by decide +kernel
theorem dL_night_46 : decode cL_night 46 = .ok (.iload 4, 2) := by decide +kernel
theorem dL_night_48 : decode cL_night 48 = .ok (.aload_n 2, 1) := by decide +kernel
theorem dL_night_49 : decode cL_night 49 = .ok (.iconst 3, 1) := by decide +kernel
theorem dL_night_50 : decode cL_night 50 = .ok (.iaload, 1) := by decide +kernel
theorem dL_night_51 : decode cL_night 51 = .ok (.if_icmp .ge 27, 3) := by decide +kernel
theorem dL_night_54 : decode cL_night 54 = .ok (.iload_n 3, 1) := by decide +kernel
theorem dL_night_55 : decode cL_night 55 = .ok (.aload_n 1, 1) := by decide +kernel
theorem dL_night_56 : decode cL_night 56 = .ok (.iload 4, 2) := by decide +kernel
theorem dL_night_58 : decode cL_night 58 = .ok (.iaload, 1) := by decide +kernel
theorem dL_night_59 : decode cL_night 59 = .ok (.aload_n 2, 1) := by decide +kernel
theorem dL_night_60 : decode cL_night 60 = .ok (.iconst 0, 1) := by decide +kernel
theorem dL_night_61 : decode cL_night 61 = .ok (.iaload, 1) := by decide +kernel
theorem dL_night_62 : decode cL_night 62 = .ok (.if_icmp .ne 7, 3) := by decide +kernel
theorem dL_night_65 : decode cL_night 65 = .ok (.iconst 1, 1) := by decide +kernel
theorem dL_night_66 : decode cL_night 66 = .ok (.goto 4, 3) := by decide +kernel
theorem dL_night_69 : decode cL_night 69 = .ok (.iconst 0, 1) := by decide +kernel
theorem dL_night_70 : decode cL_night 70 = .ok (.iadd, 1) := by decide +kernel
theorem dL_night_71 : decode cL_night 71 = .ok (.istore_n 3, 1) := by decide +kernel
theorem dL_night_72 : decode cL_night 72 = .ok (.iinc 4 1, 3) := by decide +kernel
theorem dL_night_75 : decode cL_night 75 = .ok (.goto (-29), 3) := by decide +kernel
theorem dL_night_78 : decode cL_night 78 = .ok (.iload_n 3, 1) := by decide +kernel
theorem dL_night_79 : decode cL_night 79 = .ok (.ireturn, 1) := by decide +kernel
theorem dL_law_0 : decode cL_law 0 = .ok (.new 11, 3) := by decide +kernel
theorem dL_law_3 : decode cL_law 3 = .ok (.dup, 1) := by decide +kernel
theorem dL_law_4 : decode cL_law 4 = .ok (.invokespecial 106, 3) := by decide +kernel
theorem dL_law_7 : decode cL_law 7 = .ok (.astore_n 1, 1) := by decide +kernel
theorem dL_law_8 : decode cL_law 8 = .ok (.iconst 4, 1) := by decide +kernel
theorem dL_law_9 : decode cL_law 9 = .ok (.newarray .int, 2) := by decide +kernel
theorem dL_law_11 : decode cL_law 11 = .ok (.astore_n 2, 1) := by decide +kernel
theorem dL_law_12 : decode cL_law 12 = .ok (.bipush 48, 2) := by decide +kernel
theorem dL_law_14 : decode cL_law 14 = .ok (.newarray .int, 2) := by decide +kernel
theorem dL_law_16 : decode cL_law 16 = .ok (.astore_n 3, 1) := by decide +kernel
theorem dL_law_17 : decode cL_law 17 = .ok (.bipush 12, 2) := by decide +kernel
theorem dL_law_19 : decode cL_law 19 = .ok (.newarray .int, 2) := by decide +kernel
theorem dL_law_21 : decode cL_law 21 = .ok (.astore 4, 2) := by decide +kernel
theorem dL_law_23 : decode cL_law 23 = .ok (.bipush 48, 2) := by decide +kernel
theorem dL_law_25 : decode cL_law 25 = .ok (.newarray .int, 2) := by decide +kernel
theorem dL_law_27 : decode cL_law 27 = .ok (.astore 5, 2) := by decide +kernel
theorem dL_law_29 : decode cL_law 29 = .ok (.bipush 40, 2) := by decide +kernel
theorem dL_law_31 : decode cL_law 31 = .ok (.newarray .int, 2) := by decide +kernel
theorem dL_law_33 : decode cL_law 33 = .ok (.astore 6, 2) := by decide +kernel
theorem dL_law_35 : decode cL_law 35 = .ok (.bipush 40, 2) := by decide +kernel
theorem dL_law_37 : decode cL_law 37 = .ok (.newarray .int, 2) := by decide +kernel
theorem dL_law_39 : decode cL_law 39 = .ok (.astore 7, 2) := by decide +kernel
theorem dL_law_41 : decode cL_law 41 = .ok (.iconst 0, 1) := by decide +kernel
theorem dL_law_42 : decode cL_law 42 = .ok (.istore 8, 2) := by decide +kernel
theorem dL_law_44 : decode cL_law 44 = .ok (.iload 8, 2) := by decide +kernel
theorem dL_law_46 : decode cL_law 46 = .ok (.bipush 8, 2) := by decide +kernel
theorem dL_law_48 : decode cL_law 48 = .ok (.if_icmp .ge 52, 3) := by decide +kernel
theorem dL_law_51 : decode cL_law 51 = .ok (.aload_n 3, 1) := by decide +kernel
theorem dL_law_52 : decode cL_law 52 = .ok (.bipush 6, 2) := by decide +kernel
theorem dL_law_54 : decode cL_law 54 = .ok (.iload 8, 2) := by decide +kernel
theorem dL_law_56 : decode cL_law 56 = .ok (.imul, 1) := by decide +kernel
theorem dL_law_57 : decode cL_law 57 = .ok (.iconst 1, 1) := by decide +kernel
theorem dL_law_58 : decode cL_law 58 = .ok (.iadd, 1) := by decide +kernel
theorem dL_law_59 : decode cL_law 59 = .ok (.iconst 1, 1) := by decide +kernel
theorem dL_law_60 : decode cL_law 60 = .ok (.iastore, 1) := by decide +kernel
theorem dL_law_61 : decode cL_law 61 = .ok (.aload_n 3, 1) := by decide +kernel
theorem dL_law_62 : decode cL_law 62 = .ok (.bipush 6, 2) := by decide +kernel
theorem dL_law_64 : decode cL_law 64 = .ok (.iload 8, 2) := by decide +kernel
theorem dL_law_66 : decode cL_law 66 = .ok (.imul, 1) := by decide +kernel
theorem dL_law_67 : decode cL_law 67 = .ok (.iconst 3, 1) := by decide +kernel
theorem dL_law_68 : decode cL_law 68 = .ok (.iadd, 1) := by decide +kernel
theorem dL_law_69 : decode cL_law 69 = .ok (.bipush 7, 2) := by decide +kernel
theorem dL_law_71 : decode cL_law 71 = .ok (.iastore, 1) := by decide +kernel
theorem dL_law_72 : decode cL_law 72 = .ok (.aload_n 3, 1) := by decide +kernel
theorem dL_law_73 : decode cL_law 73 = .ok (.bipush 6, 2) := by decide +kernel
theorem dL_law_75 : decode cL_law 75 = .ok (.iload 8, 2) := by decide +kernel
theorem dL_law_77 : decode cL_law 77 = .ok (.imul, 1) := by decide +kernel
theorem dL_law_78 : decode cL_law 78 = .ok (.iconst 4, 1) := by decide +kernel
theorem dL_law_79 : decode cL_law 79 = .ok (.iadd, 1) := by decide +kernel
theorem dL_law_80 : decode cL_law 80 = .ok (.bipush 7, 2) := by decide +kernel
theorem dL_law_82 : decode cL_law 82 = .ok (.iastore, 1) := by decide +kernel
theorem dL_law_83 : decode cL_law 83 = .ok (.aload_n 3, 1) := by decide +kernel
theorem dL_law_84 : decode cL_law 84 = .ok (.bipush 6, 2) := by decide +kernel
theorem dL_law_86 : decode cL_law 86 = .ok (.iload 8, 2) := by decide +kernel
theorem dL_law_88 : decode cL_law 88 = .ok (.imul, 1) := by decide +kernel
theorem dL_law_89 : decode cL_law 89 = .ok (.iconst 5, 1) := by decide +kernel
theorem dL_law_90 : decode cL_law 90 = .ok (.iadd, 1) := by decide +kernel
theorem dL_law_91 : decode cL_law 91 = .ok (.bipush 7, 2) := by decide +kernel
theorem dL_law_93 : decode cL_law 93 = .ok (.iastore, 1) := by decide +kernel
theorem dL_law_94 : decode cL_law 94 = .ok (.iinc 8 1, 3) := by decide +kernel
theorem dL_law_97 : decode cL_law 97 = .ok (.goto (-53), 3) := by decide +kernel
theorem dL_law_100 : decode cL_law 100 = .ok (.iconst 0, 1) := by decide +kernel
theorem dL_law_101 : decode cL_law 101 = .ok (.istore 8, 2) := by decide +kernel
theorem dL_law_103 : decode cL_law 103 = .ok (.iload 8, 2) := by decide +kernel
theorem dL_law_105 : decode cL_law 105 = .ok (.iconst 4, 1) := by decide +kernel
theorem dL_law_106 : decode cL_law 106 = .ok (.if_icmp .ge 30, 3) := by decide +kernel
theorem dL_law_109 : decode cL_law 109 = .ok (.aload 4, 2) := by decide +kernel
theorem dL_law_111 : decode cL_law 111 = .ok (.iconst 3, 1) := by decide +kernel
theorem dL_law_112 : decode cL_law 112 = .ok (.iload 8, 2) := by decide +kernel
theorem dL_law_114 : decode cL_law 114 = .ok (.imul, 1) := by decide +kernel
theorem dL_law_115 : decode cL_law 115 = .ok (.iconst 1, 1) := by decide +kernel
theorem dL_law_116 : decode cL_law 116 = .ok (.iadd, 1) := by decide +kernel
theorem dL_law_117 : decode cL_law 117 = .ok (.bipush 50, 2) := by decide +kernel
theorem dL_law_119 : decode cL_law 119 = .ok (.iastore, 1) := by decide +kernel
theorem dL_law_120 : decode cL_law 120 = .ok (.aload 4, 2) := by decide +kernel
theorem dL_law_122 : decode cL_law 122 = .ok (.iconst 3, 1) := by decide +kernel
theorem dL_law_123 : decode cL_law 123 = .ok (.iload 8, 2) := by decide +kernel
theorem dL_law_125 : decode cL_law 125 = .ok (.imul, 1) := by decide +kernel
theorem dL_law_126 : decode cL_law 126 = .ok (.iconst 2, 1) := by decide +kernel
theorem dL_law_127 : decode cL_law 127 = .ok (.iadd, 1) := by decide +kernel
theorem dL_law_128 : decode cL_law 128 = .ok (.iconst (-1), 1) := by decide +kernel
theorem dL_law_129 : decode cL_law 129 = .ok (.iastore, 1) := by decide +kernel
theorem dL_law_130 : decode cL_law 130 = .ok (.iinc 8 1, 3) := by decide +kernel
theorem dL_law_133 : decode cL_law 133 = .ok (.goto (-30), 3) := by decide +kernel
theorem dL_law_136 : decode cL_law 136 = .ok (.iconst 0, 1) := by decide +kernel
theorem dL_law_137 : decode cL_law 137 = .ok (.istore 8, 2) := by decide +kernel
theorem dL_law_139 : decode cL_law 139 = .ok (.iload 8, 2) := by decide +kernel
theorem dL_law_141 : decode cL_law 141 = .ok (.bipush 90, 2) := by decide +kernel
theorem dL_law_143 : decode cL_law 143 = .ok (.if_icmp .ge 641, 3) := by decide +kernel
theorem dL_law_146 : decode cL_law 146 = .ok (.aload_n 0, 1) := by decide +kernel
theorem dL_law_147 : decode cL_law 147 = .ok (.iload 8, 2) := by decide +kernel
theorem dL_law_149 : decode cL_law 149 = .ok (.invokestatic 107, 3) := by decide +kernel
theorem dL_law_152 : decode cL_law 152 = .ok (.istore 9, 2) := by decide +kernel
theorem dL_law_154 : decode cL_law 154 = .ok (.iload 9, 2) := by decide +kernel
theorem dL_law_156 : decode cL_law 156 = .ok (.bipush 18, 2) := by decide +kernel
theorem dL_law_158 : decode cL_law 158 = .ok (.invokestatic 58, 3) := by decide +kernel
theorem dL_law_161 : decode cL_law 161 = .ok (.istore 10, 2) := by decide +kernel
theorem dL_law_163 : decode cL_law 163 = .ok (.iconst 1, 1) := by decide +kernel
theorem dL_law_164 : decode cL_law 164 = .ok (.istore 11, 2) := by decide +kernel
theorem dL_law_166 : decode cL_law 166 = .ok (.iload 10, 2) := by decide +kernel
theorem dL_law_168 : decode cL_law 168 = .ok (.iconst 3, 1) := by decide +kernel
theorem dL_law_169 : decode cL_law 169 = .ok (.if_icmp .ge 110, 3) := by decide +kernel
theorem dL_law_172 : decode cL_law 172 = .ok (.aload_n 2, 1) := by decide +kernel
theorem dL_law_173 : decode cL_law 173 = .ok (.iconst 2, 1) := by decide +kernel
theorem dL_law_174 : decode cL_law 174 = .ok (.iaload, 1) := by decide +kernel
theorem dL_law_175 : decode cL_law 175 = .ok (.bipush 8, 2) := by decide +kernel
theorem dL_law_177 : decode cL_law 177 = .ok (.if_icmp .ge 102, 3) := by decide +kernel
theorem dL_law_180 : decode cL_law 180 = .ok (.bipush 6, 2) := by decide +kernel
theorem dL_law_182 : decode cL_law 182 = .ok (.aload_n 2, 1) := by decide +kernel
theorem dL_law_183 : decode cL_law 183 = .ok (.iconst 2, 1) := by decide +kernel
theorem dL_law_184 : decode cL_law 184 = .ok (.iaload, 1) := by decide +kernel
theorem dL_law_185 : decode cL_law 185 = .ok (.imul, 1) := by decide +kernel
theorem dL_law_186 : decode cL_law 186 = .ok (.istore 12, 2) := by decide +kernel
theorem dL_law_188 : decode cL_law 188 = .ok (.aload 5, 2) := by decide +kernel
theorem dL_law_190 : decode cL_law 190 = .ok (.iload 12, 2) := by decide +kernel
theorem dL_law_192 : decode cL_law 192 = .ok (.iload 9, 2) := by decide +kernel
theorem dL_law_194 : decode cL_law 194 = .ok (.iconst 5, 1) := by decide +kernel
theorem dL_law_195 : decode cL_law 195 = .ok (.ishr, 1) := by decide +kernel
theorem dL_law_196 : decode cL_law 196 = .ok (.bipush 8, 2) := by decide +kernel
theorem dL_law_198 : decode cL_law 198 = .ok (.invokestatic 58, 3) := by decide +kernel
theorem dL_law_201 : decode cL_law 201 = .ok (.iastore, 1) := by decide +kernel
theorem dL_law_202 : decode cL_law 202 = .ok (.aload 5, 2) := by decide +kernel
theorem dL_law_204 : decode cL_law 204 = .ok (.iload 12, 2) := by decide +kernel
theorem dL_law_206 : decode cL_law 206 = .ok (.iconst 1, 1) := by decide +kernel
theorem dL_law_207 : decode cL_law 207 = .ok (.iadd, 1) := by decide +kernel
theorem dL_law_208 : decode cL_law 208 = .ok (.aload 5, 2) := by decide +kernel
theorem dL_law_210 : decode cL_law 210 = .ok (.iload 12, 2) := by decide +kernel
theorem dL_law_212 : decode cL_law 212 = .ok (.iaload, 1) := by decide +kernel
theorem dL_law_213 : decode cL_law 213 = .ok (.iconst 1, 1) := by decide +kernel
theorem dL_law_214 : decode cL_law 214 = .ok (.iadd, 1) := by decide +kernel
theorem dL_law_215 : decode cL_law 215 = .ok (.iload 9, 2) := by decide +kernel
theorem dL_law_217 : decode cL_law 217 = .ok (.bipush 8, 2) := by decide +kernel
theorem dL_law_219 : decode cL_law 219 = .ok (.ishr, 1) := by decide +kernel
theorem dL_law_220 : decode cL_law 220 = .ok (.bipush 7, 2) := by decide +kernel
theorem dL_law_222 : decode cL_law 222 = .ok (.invokestatic 58, 3) := by decide +kernel
theorem dL_law_225 : decode cL_law 225 = .ok (.iadd, 1) := by decide +kernel
theorem dL_law_226 : decode cL_law 226 = .ok (.bipush 8, 2) := by decide +kernel
theorem dL_law_228 : decode cL_law 228 = .ok (.irem, 1) := by decide +kernel
theorem dL_law_229 : decode cL_law 229 = .ok (.iastore, 1) := by decide +kernel
theorem dL_law_230 : decode cL_law 230 = .ok (.aload 5, 2) := by decide +kernel
theorem dL_law_232 : decode cL_law 232 = .ok (.iload 12, 2) := by decide +kernel
theorem dL_law_234 : decode cL_law 234 = .ok (.iconst 3, 1) := by decide +kernel
theorem dL_law_235 : decode cL_law 235 = .ok (.iadd, 1) := by decide +kernel
theorem dL_law_236 : decode cL_law 236 = .ok (.iconst (-1), 1) := by decide +kernel
theorem dL_law_237 : decode cL_law 237 = .ok (.iastore, 1) := by decide +kernel
theorem dL_law_238 : decode cL_law 238 = .ok (.aload_n 2, 1) := by decide +kernel
theorem dL_law_239 : decode cL_law 239 = .ok (.iconst 2, 1) := by decide +kernel
theorem dL_law_240 : decode cL_law 240 = .ok (.dup2, 1) := by decide +kernel
theorem dL_law_241 : decode cL_law 241 = .ok (.iaload, 1) := by decide +kernel
theorem dL_law_242 : decode cL_law 242 = .ok (.iconst 1, 1) := by decide +kernel
theorem dL_law_243 : decode cL_law 243 = .ok (.iadd, 1) := by decide +kernel
theorem dL_law_244 : decode cL_law 244 = .ok (.iastore, 1) := by decide +kernel
theorem dL_law_245 : decode cL_law 245 = .ok (.aload_n 1, 1) := by decide +kernel
theorem dL_law_246 : decode cL_law 246 = .ok (.aload 5, 2) := by decide +kernel
theorem dL_law_248 : decode cL_law 248 = .ok (.iload 12, 2) := by decide +kernel
theorem dL_law_250 : decode cL_law 250 = .ok (.iaload, 1) := by decide +kernel
theorem dL_law_251 : decode cL_law 251 = .ok (.aload 5, 2) := by decide +kernel
theorem dL_law_253 : decode cL_law 253 = .ok (.iload 12, 2) := by decide +kernel
theorem dL_law_255 : decode cL_law 255 = .ok (.iconst 1, 1) := by decide +kernel
theorem dL_law_256 : decode cL_law 256 = .ok (.iadd, 1) := by decide +kernel
theorem dL_law_257 : decode cL_law 257 = .ok (.iaload, 1) := by decide +kernel
theorem dL_law_258 : decode cL_law 258 = .ok (.invokevirtual 111, 3) := by decide +kernel
theorem dL_law_261 : decode cL_law 261 = .ok (.aload_n 2, 1) := by decide +kernel
theorem dL_law_262 : decode cL_law 262 = .ok (.iconst 2, 1) := by decide +kernel
theorem dL_law_263 : decode cL_law 263 = .ok (.iaload, 1) := by decide +kernel
theorem dL_law_264 : decode cL_law 264 = .ok (.iconst 1, 1) := by decide +kernel
theorem dL_law_265 : decode cL_law 265 = .ok (.isub, 1) := by decide +kernel
theorem dL_law_266 : decode cL_law 266 = .ok (.if_icmp .ne 7, 3) := by decide +kernel
theorem dL_law_269 : decode cL_law 269 = .ok (.iconst 1, 1) := by decide +kernel
theorem dL_law_270 : decode cL_law 270 = .ok (.goto 4, 3) := by decide +kernel
theorem dL_law_273 : decode cL_law 273 = .ok (.iconst 0, 1) := by decide +kernel
theorem dL_law_274 : decode cL_law 274 = .ok (.istore 11, 2) := by decide +kernel
theorem dL_law_276 : decode cL_law 276 = .ok (.goto 474, 3) := by decide +kernel
theorem dL_law_279 : decode cL_law 279 = .ok (.iload 10, 2) := by decide +kernel
theorem dL_law_281 : decode cL_law 281 = .ok (.bipush 8, 2) := by decide +kernel
theorem dL_law_283 : decode cL_law 283 = .ok (.if_icmp .ge 39, 3) := by decide +kernel
theorem dL_law_286 : decode cL_law 286 = .ok (.aload_n 1, 1) := by decide +kernel
theorem dL_law_287 : decode cL_law 287 = .ok (.iload 10, 2) := by decide +kernel
theorem dL_law_289 : decode cL_law 289 = .ok (.iconst 5, 1) := by decide +kernel
theorem dL_law_290 : decode cL_law 290 = .ok (.if_icmp .ge 7, 3) := by decide +kernel
theorem dL_law_293 : decode cL_law 293 = .ok (.iconst 0, 1) := by decide +kernel
theorem dL_law_294 : decode cL_law 294 = .ok (.goto 15, 3) := by decide +kernel
theorem dL_law_297 : decode cL_law 297 = .ok (.iload 10, 2) := by decide +kernel
theorem dL_law_299 : decode cL_law 299 = .ok (.bipush 7, 2) := by decide +kernel
theorem dL_law_301 : decode cL_law 301 = .ok (.if_icmp .ge 7, 3) := by decide +kernel
theorem dL_law_304 : decode cL_law 304 = .ok (.iconst 1, 1) := by decide +kernel
theorem dL_law_305 : decode cL_law 305 = .ok (.goto 4, 3) := by decide +kernel
theorem dL_law_308 : decode cL_law 308 = .ok (.iconst 2, 1) := by decide +kernel
theorem dL_law_309 : decode cL_law 309 = .ok (.iload 9, 2) := by decide +kernel
theorem dL_law_311 : decode cL_law 311 = .ok (.iconst 5, 1) := by decide +kernel
theorem dL_law_312 : decode cL_law 312 = .ok (.ishr, 1) := by decide +kernel
theorem dL_law_313 : decode cL_law 313 = .ok (.aload_n 3, 1) := by decide +kernel
theorem dL_law_314 : decode cL_law 314 = .ok (.invokestatic 114, 3) := by decide +kernel
theorem dL_law_317 : decode cL_law 317 = .ok (.istore 11, 2) := by decide +kernel
theorem dL_law_319 : decode cL_law 319 = .ok (.goto 431, 3) := by decide +kernel
theorem dL_law_322 : decode cL_law 322 = .ok (.iload 10, 2) := by decide +kernel
theorem dL_law_324 : decode cL_law 324 = .ok (.bipush 8, 2) := by decide +kernel
theorem dL_law_326 : decode cL_law 326 = .ok (.if_icmp .ne 99, 3) := by decide +kernel
theorem dL_law_329 : decode cL_law 329 = .ok (.iload 9, 2) := by decide +kernel
theorem dL_law_331 : decode cL_law 331 = .ok (.iconst 5, 1) := by decide +kernel
theorem dL_law_332 : decode cL_law 332 = .ok (.ishr, 1) := by decide +kernel
theorem dL_law_333 : decode cL_law 333 = .ok (.iconst 4, 1) := by decide +kernel
theorem dL_law_334 : decode cL_law 334 = .ok (.invokestatic 58, 3) := by decide +kernel
theorem dL_law_337 : decode cL_law 337 = .ok (.istore 12, 2) := by decide +kernel
theorem dL_law_339 : decode cL_law 339 = .ok (.iload 9, 2) := by decide +kernel
theorem dL_law_341 : decode cL_law 341 = .ok (.bipush 7, 2) := by decide +kernel
theorem dL_law_343 : decode cL_law 343 = .ok (.ishr, 1) := by decide +kernel
theorem dL_law_344 : decode cL_law 344 = .ok (.bipush 8, 2) := by decide +kernel
theorem dL_law_346 : decode cL_law 346 = .ok (.invokestatic 58, 3) := by decide +kernel
theorem dL_law_349 : decode cL_law 349 = .ok (.istore 13, 2) := by decide +kernel
theorem dL_law_351 : decode cL_law 351 = .ok (.aload 4, 2) := by decide +kernel
theorem dL_law_353 : decode cL_law 353 = .ok (.iconst 3, 1) := by decide +kernel
theorem dL_law_354 : decode cL_law 354 = .ok (.iload 12, 2) := by decide +kernel
theorem dL_law_356 : decode cL_law 356 = .ok (.imul, 1) := by decide +kernel
theorem dL_law_357 : decode cL_law 357 = .ok (.iconst 2, 1) := by decide +kernel
theorem dL_law_358 : decode cL_law 358 = .ok (.iadd, 1) := by decide +kernel
theorem dL_law_359 : decode cL_law 359 = .ok (.iaload, 1) := by decide +kernel
theorem dL_law_360 : decode cL_law 360 = .ok (.ifCond .ge 13, 3) := by decide +kernel
theorem dL_law_363 : decode cL_law 363 = .ok (.aload 4, 2) := by decide +kernel
theorem dL_law_365 : decode cL_law 365 = .ok (.iconst 3, 1) := by decide +kernel
theorem dL_law_366 : decode cL_law 366 = .ok (.iload 12, 2) := by decide +kernel
theorem dL_law_368 : decode cL_law 368 = .ok (.imul, 1) := by decide +kernel
theorem dL_law_369 : decode cL_law 369 = .ok (.iaload, 1) := by decide +kernel
theorem dL_law_370 : decode cL_law 370 = .ok (.goto 5, 3) := by decide +kernel
theorem dL_law_373 : decode cL_law 373 = .ok (.bipush (-3), 2) := by decide +kernel
theorem dL_law_375 : decode cL_law 375 = .ok (.istore 14, 2) := by decide +kernel
theorem dL_law_377 : decode cL_law 377 = .ok (.aload 4, 2) := by decide +kernel
theorem dL_law_379 : decode cL_law 379 = .ok (.iconst 3, 1) := by decide +kernel
theorem dL_law_380 : decode cL_law 380 = .ok (.iload 12, 2) := by decide +kernel
theorem dL_law_382 : decode cL_law 382 = .ok (.imul, 1) := by decide +kernel
theorem dL_law_383 : decode cL_law 383 = .ok (.iload 14, 2) := by decide +kernel
theorem dL_law_385 : decode cL_law 385 = .ok (.ifCond .ge 13, 3) := by decide +kernel
theorem dL_law_388 : decode cL_law 388 = .ok (.aload 4, 2) := by decide +kernel
theorem dL_law_390 : decode cL_law 390 = .ok (.iconst 3, 1) := by decide +kernel
theorem dL_law_391 : decode cL_law 391 = .ok (.iload 12, 2) := by decide +kernel
theorem dL_law_393 : decode cL_law 393 = .ok (.imul, 1) := by decide +kernel
theorem dL_law_394 : decode cL_law 394 = .ok (.iaload, 1) := by decide +kernel
theorem dL_law_395 : decode cL_law 395 = .ok (.goto 5, 3) := by decide +kernel
theorem dL_law_398 : decode cL_law 398 = .ok (.iload 13, 2) := by decide +kernel
theorem dL_law_400 : decode cL_law 400 = .ok (.iastore, 1) := by decide +kernel
theorem dL_law_401 : decode cL_law 401 = .ok (.aload_n 1, 1) := by decide +kernel
theorem dL_law_402 : decode cL_law 402 = .ok (.iconst 0, 1) := by decide +kernel
theorem dL_law_403 : decode cL_law 403 = .ok (.iload 12, 2) := by decide +kernel
theorem dL_law_405 : decode cL_law 405 = .ok (.iload 13, 2) := by decide +kernel
theorem dL_law_407 : decode cL_law 407 = .ok (.invokestatic 118, 3) := by decide +kernel
theorem dL_law_410 : decode cL_law 410 = .ok (.iload 14, 2) := by decide +kernel
theorem dL_law_412 : decode cL_law 412 = .ok (.if_icmp .ne 7, 3) := by decide +kernel
theorem dL_law_415 : decode cL_law 415 = .ok (.iconst 1, 1) := by decide +kernel
theorem dL_law_416 : decode cL_law 416 = .ok (.goto 4, 3) := by decide +kernel
theorem dL_law_419 : decode cL_law 419 = .ok (.iconst 0, 1) := by decide +kernel
theorem dL_law_420 : decode cL_law 420 = .ok (.istore 11, 2) := by decide +kernel
theorem dL_law_422 : decode cL_law 422 = .ok (.goto 328, 3) := by decide +kernel
theorem dL_law_425 : decode cL_law 425 = .ok (.iload 10, 2) := by decide +kernel
theorem dL_law_427 : decode cL_law 427 = .ok (.bipush 11, 2) := by decide +kernel
theorem dL_law_429 : decode cL_law 429 = .ok (.if_icmp .ge 31, 3) := by decide +kernel
theorem dL_law_432 : decode cL_law 432 = .ok (.aload_n 1, 1) := by decide +kernel
theorem dL_law_433 : decode cL_law 433 = .ok (.iconst 1, 1) := by decide +kernel
theorem dL_law_434 : decode cL_law 434 = .ok (.iconst 0, 1) := by decide +kernel
theorem dL_law_435 : decode cL_law 435 = .ok (.iconst 0, 1) := by decide +kernel
theorem dL_law_436 : decode cL_law 436 = .ok (.invokestatic 118, 3) := by decide +kernel
theorem dL_law_439 : decode cL_law 439 = .ok (.aload 5, 2) := by decide +kernel
theorem dL_law_441 : decode cL_law 441 = .ok (.aload 7, 2) := by decide +kernel
theorem dL_law_443 : decode cL_law 443 = .ok (.aload_n 2, 1) := by decide +kernel
theorem dL_law_444 : decode cL_law 444 = .ok (.invokestatic 122, 3) := by decide +kernel
theorem dL_law_447 : decode cL_law 447 = .ok (.if_icmp .ne 7, 3) := by decide +kernel
theorem dL_law_450 : decode cL_law 450 = .ok (.iconst 1, 1) := by decide +kernel
theorem dL_law_451 : decode cL_law 451 = .ok (.goto 4, 3) := by decide +kernel
theorem dL_law_454 : decode cL_law 454 = .ok (.iconst 0, 1) := by decide +kernel
theorem dL_law_455 : decode cL_law 455 = .ok (.istore 11, 2) := by decide +kernel
theorem dL_law_457 : decode cL_law 457 = .ok (.goto 293, 3) := by decide +kernel
theorem dL_law_460 : decode cL_law 460 = .ok (.iload 10, 2) := by decide +kernel
theorem dL_law_462 : decode cL_law 462 = .ok (.bipush 13, 2) := by decide +kernel
theorem dL_law_464 : decode cL_law 464 = .ok (.if_icmp .ge 214, 3) := by decide +kernel
theorem dL_law_467 : decode cL_law 467 = .ok (.aload_n 2, 1) := by decide +kernel
theorem dL_law_468 : decode cL_law 468 = .ok (.iconst 2, 1) := by decide +kernel
theorem dL_law_469 : decode cL_law 469 = .ok (.iaload, 1) := by decide +kernel
theorem dL_law_470 : decode cL_law 470 = .ok (.ifCond .le 208, 3) := by decide +kernel
theorem dL_law_473 : decode cL_law 473 = .ok (.iload 9, 2) := by decide +kernel
theorem dL_law_475 : decode cL_law 475 = .ok (.iconst 5, 1) := by decide +kernel
theorem dL_law_476 : decode cL_law 476 = .ok (.ishr, 1) := by decide +kernel
theorem dL_law_477 : decode cL_law 477 = .ok (.aload_n 2, 1) := by decide +kernel
theorem dL_law_478 : decode cL_law 478 = .ok (.iconst 2, 1) := by decide +kernel
theorem dL_law_479 : decode cL_law 479 = .ok (.iaload, 1) := by decide +kernel
theorem dL_law_480 : decode cL_law 480 = .ok (.invokestatic 58, 3) := by decide +kernel
theorem dL_law_483 : decode cL_law 483 = .ok (.istore 12, 2) := by decide +kernel
theorem dL_law_485 : decode cL_law 485 = .ok (.iload 9, 2) := by decide +kernel
theorem dL_law_487 : decode cL_law 487 = .ok (.bipush 8, 2) := by decide +kernel
theorem dL_law_489 : decode cL_law 489 = .ok (.ishr, 1) := by decide +kernel
theorem dL_law_490 : decode cL_law 490 = .ok (.iconst 2, 1) := by decide +kernel
theorem dL_law_491 : decode cL_law 491 = .ok (.invokestatic 58, 3) := by decide +kernel
theorem dL_law_494 : decode cL_law 494 = .ok (.istore 13, 2) := by decide +kernel
theorem dL_law_496 : decode cL_law 496 = .ok (.aload 5, 2) := by decide +kernel
theorem dL_law_498 : decode cL_law 498 = .ok (.bipush 6, 2) := by decide +kernel
theorem dL_law_500 : decode cL_law 500 = .ok (.iload 12, 2) := by decide +kernel
theorem dL_law_502 : decode cL_law 502 = .ok (.imul, 1) := by decide +kernel
theorem dL_law_503 : decode cL_law 503 = .ok (.iconst 2, 1) := by decide +kernel
theorem dL_law_504 : decode cL_law 504 = .ok (.iadd, 1) := by decide +kernel
theorem dL_law_505 : decode cL_law 505 = .ok (.iaload, 1) := by decide +kernel
theorem dL_law_506 : decode cL_law 506 = .ok (.iconst 3, 1) := by decide +kernel
theorem dL_law_507 : decode cL_law 507 = .ok (.if_icmp .ne 20, 3) := by decide +kernel
theorem dL_law_510 : decode cL_law 510 = .ok (.aload 5, 2) := by decide +kernel
theorem dL_law_512 : decode cL_law 512 = .ok (.bipush 6, 2) := by decide +kernel
theorem dL_law_514 : decode cL_law 514 = .ok (.iload 12, 2) := by decide +kernel
theorem dL_law_516 : decode cL_law 516 = .ok (.imul, 1) := by decide +kernel
theorem dL_law_517 : decode cL_law 517 = .ok (.iconst 5, 1) := by decide +kernel
theorem dL_law_518 : decode cL_law 518 = .ok (.iadd, 1) := by decide +kernel
theorem dL_law_519 : decode cL_law 519 = .ok (.iaload, 1) := by decide +kernel
theorem dL_law_520 : decode cL_law 520 = .ok (.ifCond .ne 7, 3) := by decide +kernel
theorem dL_law_523 : decode cL_law 523 = .ok (.iconst 1, 1) := by decide +kernel
theorem dL_law_524 : decode cL_law 524 = .ok (.goto 4, 3) := by decide +kernel
theorem dL_law_527 : decode cL_law 527 = .ok (.iconst 0, 1) := by decide +kernel
theorem dL_law_528 : decode cL_law 528 = .ok (.istore 14, 2) := by decide +kernel
theorem dL_law_530 : decode cL_law 530 = .ok (.iload 14, 2) := by decide +kernel
theorem dL_law_532 : decode cL_law 532 = .ok (.ifCond .eq 20, 3) := by decide +kernel
theorem dL_law_535 : decode cL_law 535 = .ok (.iconst 3, 1) := by decide +kernel
theorem dL_law_536 : decode cL_law 536 = .ok (.aload 5, 2) := by decide +kernel
theorem dL_law_538 : decode cL_law 538 = .ok (.bipush 6, 2) := by decide +kernel
theorem dL_law_540 : decode cL_law 540 = .ok (.iload 12, 2) := by decide +kernel
theorem dL_law_542 : decode cL_law 542 = .ok (.imul, 1) := by decide +kernel
theorem dL_law_543 : decode cL_law 543 = .ok (.iconst 3, 1) := by decide +kernel
theorem dL_law_544 : decode cL_law 544 = .ok (.iadd, 1) := by decide +kernel
theorem dL_law_545 : decode cL_law 545 = .ok (.iaload, 1) := by decide +kernel
theorem dL_law_546 : decode cL_law 546 = .ok (.imul, 1) := by decide +kernel
theorem dL_law_547 : decode cL_law 547 = .ok (.iconst 1, 1) := by decide +kernel
theorem dL_law_548 : decode cL_law 548 = .ok (.iadd, 1) := by decide +kernel
theorem dL_law_549 : decode cL_law 549 = .ok (.goto 4, 3) := by decide +kernel
theorem dL_law_552 : decode cL_law 552 = .ok (.iconst 1, 1) := by decide +kernel
theorem dL_law_553 : decode cL_law 553 = .ok (.istore 15, 2) := by decide +kernel
theorem dL_law_555 : decode cL_law 555 = .ok (.aload 4, 2) := by decide +kernel
theorem dL_law_557 : decode cL_law 557 = .ok (.iload 15, 2) := by decide +kernel
theorem dL_law_559 : decode cL_law 559 = .ok (.iaload, 1) := by decide +kernel
theorem dL_law_560 : decode cL_law 560 = .ok (.bipush 15, 2) := by decide +kernel
theorem dL_law_562 : decode cL_law 562 = .ok (.iload 13, 2) := by decide +kernel
theorem dL_law_564 : decode cL_law 564 = .ok (.imul, 1) := by decide +kernel
theorem dL_law_565 : decode cL_law 565 = .ok (.iadd, 1) := by decide +kernel
theorem dL_law_566 : decode cL_law 566 = .ok (.bipush 10, 2) := by decide +kernel
theorem dL_law_568 : decode cL_law 568 = .ok (.isub, 1) := by decide +kernel
theorem dL_law_569 : decode cL_law 569 = .ok (.istore 16, 2) := by decide +kernel
theorem dL_law_571 : decode cL_law 571 = .ok (.aload 4, 2) := by decide +kernel
theorem dL_law_573 : decode cL_law 573 = .ok (.iload 15, 2) := by decide +kernel
theorem dL_law_575 : decode cL_law 575 = .ok (.iload 14, 2) := by decide +kernel
theorem dL_law_577 : decode cL_law 577 = .ok (.ifCond .ne 11, 3) := by decide +kernel
theorem dL_law_580 : decode cL_law 580 = .ok (.aload 4, 2) := by decide +kernel
theorem dL_law_582 : decode cL_law 582 = .ok (.iload 15, 2) := by decide +kernel
theorem dL_law_584 : decode cL_law 584 = .ok (.iaload, 1) := by decide +kernel
theorem dL_law_585 : decode cL_law 585 = .ok (.goto 26, 3) := by decide +kernel
theorem dL_law_588 : decode cL_law 588 = .ok (.iload 16, 2) := by decide +kernel
theorem dL_law_590 : decode cL_law 590 = .ok (.ifCond .ge 7, 3) := by decide +kernel
theorem dL_law_593 : decode cL_law 593 = .ok (.iconst 0, 1) := by decide +kernel
theorem dL_law_594 : decode cL_law 594 = .ok (.goto 17, 3) := by decide +kernel
theorem dL_law_597 : decode cL_law 597 = .ok (.iload 16, 2) := by decide +kernel
theorem dL_law_599 : decode cL_law 599 = .ok (.bipush 100, 2) := by decide +kernel
theorem dL_law_601 : decode cL_law 601 = .ok (.if_icmp .le 8, 3) := by decide +kernel
theorem dL_law_604 : decode cL_law 604 = .ok (.bipush 100, 2) := by decide +kernel
theorem dL_law_606 : decode cL_law 606 = .ok (.goto 5, 3) := by decide +kernel
theorem dL_law_609 : decode cL_law 609 = .ok (.iload 16, 2) := by decide +kernel
theorem dL_law_611 : decode cL_law 611 = .ok (.iastore, 1) := by decide +kernel
theorem dL_law_612 : decode cL_law 612 = .ok (.aload 5, 2) := by decide +kernel
theorem dL_law_614 : decode cL_law 614 = .ok (.bipush 6, 2) := by decide +kernel
theorem dL_law_616 : decode cL_law 616 = .ok (.iload 12, 2) := by decide +kernel
theorem dL_law_618 : decode cL_law 618 = .ok (.imul, 1) := by decide +kernel
theorem dL_law_619 : decode cL_law 619 = .ok (.iconst 5, 1) := by decide +kernel
theorem dL_law_620 : decode cL_law 620 = .ok (.iadd, 1) := by decide +kernel
theorem dL_law_621 : decode cL_law 621 = .ok (.iload 14, 2) := by decide +kernel
theorem dL_law_623 : decode cL_law 623 = .ok (.ifCond .eq 7, 3) := by decide +kernel
theorem dL_law_626 : decode cL_law 626 = .ok (.iconst 1, 1) := by decide +kernel
theorem dL_law_627 : decode cL_law 627 = .ok (.goto 13, 3) := by decide +kernel
theorem dL_law_630 : decode cL_law 630 = .ok (.aload 5, 2) := by decide +kernel
theorem dL_law_632 : decode cL_law 632 = .ok (.bipush 6, 2) := by decide +kernel
theorem dL_law_634 : decode cL_law 634 = .ok (.iload 12, 2) := by decide +kernel
theorem dL_law_636 : decode cL_law 636 = .ok (.imul, 1) := by decide +kernel
theorem dL_law_637 : decode cL_law 637 = .ok (.iconst 5, 1) := by decide +kernel
theorem dL_law_638 : decode cL_law 638 = .ok (.iadd, 1) := by decide +kernel
theorem dL_law_639 : decode cL_law 639 = .ok (.iaload, 1) := by decide +kernel
theorem dL_law_640 : decode cL_law 640 = .ok (.iastore, 1) := by decide +kernel
theorem dL_law_641 : decode cL_law 641 = .ok (.aload_n 1, 1) := by decide +kernel
theorem dL_law_642 : decode cL_law 642 = .ok (.iconst 2, 1) := by decide +kernel
theorem dL_law_643 : decode cL_law 643 = .ok (.iload 12, 2) := by decide +kernel
theorem dL_law_645 : decode cL_law 645 = .ok (.iload 13, 2) := by decide +kernel
theorem dL_law_647 : decode cL_law 647 = .ok (.invokestatic 118, 3) := by decide +kernel
theorem dL_law_650 : decode cL_law 650 = .ok (.iload 14, 2) := by decide +kernel
theorem dL_law_652 : decode cL_law 652 = .ok (.ifCond .eq 11, 3) := by decide +kernel
theorem dL_law_655 : decode cL_law 655 = .ok (.aload 4, 2) := by decide +kernel
theorem dL_law_657 : decode cL_law 657 = .ok (.iload 15, 2) := by decide +kernel
theorem dL_law_659 : decode cL_law 659 = .ok (.iaload, 1) := by decide +kernel
theorem dL_law_660 : decode cL_law 660 = .ok (.goto 5, 3) := by decide +kernel
theorem dL_law_663 : decode cL_law 663 = .ok (.bipush (-3), 2) := by decide +kernel
theorem dL_law_665 : decode cL_law 665 = .ok (.if_icmp .ne 7, 3) := by decide +kernel
theorem dL_law_668 : decode cL_law 668 = .ok (.iconst 1, 1) := by decide +kernel
theorem dL_law_669 : decode cL_law 669 = .ok (.goto 4, 3) := by decide +kernel
theorem dL_law_672 : decode cL_law 672 = .ok (.iconst 0, 1) := by decide +kernel
theorem dL_law_673 : decode cL_law 673 = .ok (.istore 11, 2) := by decide +kernel
theorem dL_law_675 : decode cL_law 675 = .ok (.goto 75, 3) := by decide +kernel
theorem dL_law_678 : decode cL_law 678 = .ok (.iconst 1, 1) := by decide +kernel
theorem dL_law_679 : decode cL_law 679 = .ok (.iload 9, 2) := by decide +kernel
theorem dL_law_681 : decode cL_law 681 = .ok (.iconst 5, 1) := by decide +kernel
theorem dL_law_682 : decode cL_law 682 = .ok (.ishr, 1) := by decide +kernel
theorem dL_law_683 : decode cL_law 683 = .ok (.iload 9, 2) := by decide +kernel
theorem dL_law_685 : decode cL_law 685 = .ok (.bipush 13, 2) := by decide +kernel
theorem dL_law_687 : decode cL_law 687 = .ok (.ishr, 1) := by decide +kernel
theorem dL_law_688 : decode cL_law 688 = .ok (.iconst 4, 1) := by decide +kernel
theorem dL_law_689 : decode cL_law 689 = .ok (.invokestatic 58, 3) := by decide +kernel
theorem dL_law_692 : decode cL_law 692 = .ok (.ifCond .ne 8, 3) := by decide +kernel
theorem dL_law_695 : decode cL_law 695 = .ok (.bipush 60, 2) := by decide +kernel
theorem dL_law_697 : decode cL_law 697 = .ok (.goto 4, 3) := by decide +kernel
theorem dL_law_700 : decode cL_law 700 = .ok (.iconst 3, 1) := by decide +kernel
theorem dL_law_701 : decode cL_law 701 = .ok (.invokestatic 58, 3) := by decide +kernel
theorem dL_law_704 : decode cL_law 704 = .ok (.iadd, 1) := by decide +kernel
theorem dL_law_705 : decode cL_law 705 = .ok (.istore 12, 2) := by decide +kernel
theorem dL_law_707 : decode cL_law 707 = .ok (.aload_n 2, 1) := by decide +kernel
theorem dL_law_708 : decode cL_law 708 = .ok (.iconst 1, 1) := by decide +kernel
theorem dL_law_709 : decode cL_law 709 = .ok (.iaload, 1) := by decide +kernel
theorem dL_law_710 : decode cL_law 710 = .ok (.iload 12, 2) := by decide +kernel
theorem dL_law_712 : decode cL_law 712 = .ok (.iadd, 1) := by decide +kernel
theorem dL_law_713 : decode cL_law 713 = .ok (.sipush 1000, 3) := by decide +kernel
theorem dL_law_716 : decode cL_law 716 = .ok (.if_icmp .gt 27, 3) := by decide +kernel
theorem dL_law_719 : decode cL_law 719 = .ok (.aload_n 1, 1) := by decide +kernel
theorem dL_law_720 : decode cL_law 720 = .ok (.iload 12, 2) := by decide +kernel
theorem dL_law_722 : decode cL_law 722 = .ok (.invokevirtual 125, 3) := by decide +kernel
theorem dL_law_725 : decode cL_law 725 = .ok (.iload 12, 2) := by decide +kernel
theorem dL_law_727 : decode cL_law 727 = .ok (.aload_n 3, 1) := by decide +kernel
theorem dL_law_728 : decode cL_law 728 = .ok (.aload 4, 2) := by decide +kernel
theorem dL_law_730 : decode cL_law 730 = .ok (.aload 5, 2) := by decide +kernel
theorem dL_law_732 : decode cL_law 732 = .ok (.aload 6, 2) := by decide +kernel
theorem dL_law_734 : decode cL_law 734 = .ok (.aload 7, 2) := by decide +kernel
theorem dL_law_736 : decode cL_law 736 = .ok (.aload_n 2, 1) := by decide +kernel
theorem dL_law_737 : decode cL_law 737 = .ok (.invokestatic 128, 3) := by decide +kernel
theorem dL_law_740 : decode cL_law 740 = .ok (.if_icmp .ne 7, 3) := by decide +kernel
theorem dL_law_743 : decode cL_law 743 = .ok (.iconst 1, 1) := by decide +kernel
theorem dL_law_744 : decode cL_law 744 = .ok (.goto 4, 3) := by decide +kernel
theorem dL_law_747 : decode cL_law 747 = .ok (.iconst 0, 1) := by decide +kernel
theorem dL_law_748 : decode cL_law 748 = .ok (.istore 11, 2) := by decide +kernel
theorem dL_law_750 : decode cL_law 750 = .ok (.iload 11, 2) := by decide +kernel
theorem dL_law_752 : decode cL_law 752 = .ok (.ifCond .eq 24, 3) := by decide +kernel
theorem dL_law_755 : decode cL_law 755 = .ok (.aload_n 1, 1) := by decide +kernel
theorem dL_law_756 : decode cL_law 756 = .ok (.iload 9, 2) := by decide +kernel
theorem dL_law_758 : decode cL_law 758 = .ok (.iconst 3, 1) := by decide +kernel
theorem dL_law_759 : decode cL_law 759 = .ok (.ishr, 1) := by decide +kernel
theorem dL_law_760 : decode cL_law 760 = .ok (.aload_n 3, 1) := by decide +kernel
theorem dL_law_761 : decode cL_law 761 = .ok (.aload 4, 2) := by decide +kernel
theorem dL_law_763 : decode cL_law 763 = .ok (.aload 5, 2) := by decide +kernel
theorem dL_law_765 : decode cL_law 765 = .ok (.aload 6, 2) := by decide +kernel
theorem dL_law_767 : decode cL_law 767 = .ok (.aload 7, 2) := by decide +kernel
theorem dL_law_769 : decode cL_law 769 = .ok (.aload_n 2, 1) := by decide +kernel
theorem dL_law_770 : decode cL_law 770 = .ok (.invokestatic 132, 3) := by decide +kernel
theorem dL_law_773 : decode cL_law 773 = .ok (.ifCond .ne 5, 3) := by decide +kernel
theorem dL_law_776 : decode cL_law 776 = .ok (.iconst 0, 1) := by decide +kernel
theorem dL_law_777 : decode cL_law 777 = .ok (.ireturn, 1) := by decide +kernel
theorem dL_law_778 : decode cL_law 778 = .ok (.iinc 8 1, 3) := by decide +kernel
theorem dL_law_781 : decode cL_law 781 = .ok (.goto (-642), 3) := by decide +kernel
theorem dL_law_784 : decode cL_law 784 = .ok (.iconst 1, 1) := by decide +kernel
theorem dL_law_785 : decode cL_law 785 = .ok (.ireturn, 1) := by decide +kernel
