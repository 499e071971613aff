theorem dX0_init_0 : decode cX0_init 0 = .ok (.aload_n 0, 1) := by decide +kernel
theorem dX0_init_1 : decode cX0_init 1 = .ok (.invokespecial 3, 3) := by decide +kernel
theorem dX0_init_4 : decode cX0_init 4 = .ok (.aload_n 0, 1) := by decide +kernel
theorem dX0_init_5 : decode cX0_init 5 = .ok (.new 9, 3) := by decide +kernel
theorem dX0_init_8 : decode cX0_init 8 = .ok (.dup, 1) := by decide +kernel
theorem dX0_init_9 : decode cX0_init 9 = .ok (.invokespecial 11, 3) := by decide +kernel
theorem dX0_init_12 : decode cX0_init 12 = .ok (.putfield 12, 3) := by decide +kernel
theorem dX0_init_15 : decode cX0_init 15 = .ok (.aload_n 0, 1) := by decide +kernel
theorem dX0_init_16 : decode cX0_init 16 = .ok (.new 9, 3) := by decide +kernel
theorem dX0_init_19 : decode cX0_init 19 = .ok (.dup, 1) := by decide +kernel
theorem dX0_init_20 : decode cX0_init 20 = .ok (.invokespecial 11, 3) := by decide +kernel
theorem dX0_init_23 : decode cX0_init 23 = .ok (.putfield 18, 3) := by decide +kernel
theorem dX0_init_26 : decode cX0_init 26 = .ok (.return_, 1) := by decide +kernel
theorem dX0_countTaken_0 : decode cX0_countTaken 0 = .ok (.aload_n 0, 1) := by decide +kernel
theorem dX0_countTaken_1 : decode cX0_countTaken 1 = .ok (.getfield 12, 3) := by decide +kernel
theorem dX0_countTaken_4 : decode cX0_countTaken 4 = .ok (.invokevirtual 21, 3) := by decide +kernel
theorem dX0_countTaken_7 : decode cX0_countTaken 7 = .ok (.ireturn, 1) := by decide +kernel
theorem dX0_countKept_0 : decode cX0_countKept 0 = .ok (.aload_n 0, 1) := by decide +kernel
theorem dX0_countKept_1 : decode cX0_countKept 1 = .ok (.getfield 18, 3) := by decide +kernel
theorem dX0_countKept_4 : decode cX0_countKept 4 = .ok (.invokevirtual 21, 3) := by decide +kernel
theorem dX0_countKept_7 : decode cX0_countKept 7 = .ok (.ireturn, 1) := by decide +kernel
theorem dX0_take_0 : decode cX0_take 0 = .ok (.aload_n 0, 1) := by decide +kernel
theorem dX0_take_1 : decode cX0_take 1 = .ok (.getfield 12, 3) := by decide +kernel
theorem dX0_take_4 : decode cX0_take 4 = .ok (.invokevirtual 21, 3) := by decide +kernel
theorem dX0_take_7 : decode cX0_take 7 = .ok (.sipush 300, 3) := by decide +kernel
theorem dX0_take_10 : decode cX0_take 10 = .ok (.if_icmp .ge 13, 3) := by decide +kernel
theorem dX0_take_13 : decode cX0_take 13 = .ok (.aload_n 0, 1) := by decide +kernel
theorem dX0_take_14 : decode cX0_take 14 = .ok (.iload_n 1, 1) := by decide +kernel
theorem dX0_take_15 : decode cX0_take 15 = .ok (.iload_n 2, 1) := by decide +kernel
theorem dX0_take_16 : decode cX0_take 16 = .ok (.iload_n 3, 1) := by decide +kernel
theorem dX0_take_17 : decode cX0_take 17 = .ok (.invokevirtual 25, 3) := by decide +kernel
theorem dX0_take_20 : decode cX0_take 20 = .ok (.ifCond .eq 4, 3) := by decide +kernel
theorem dX0_take_23 : decode cX0_take 23 = .ok (.return_, 1) := by decide +kernel
theorem dX0_take_24 : decode cX0_take 24 = .ok (.new 29, 3) := by decide +kernel
theorem dX0_take_27 : decode cX0_take 27 = .ok (.dup, 1) := by decide +kernel
theorem dX0_take_28 : decode cX0_take 28 = .ok (.iload_n 1, 1) := by decide +kernel
theorem dX0_take_29 : decode cX0_take 29 = .ok (.iload_n 2, 1) := by decide +kernel
theorem dX0_take_30 : decode cX0_take 30 = .ok (.iload_n 3, 1) := by decide +kernel
theorem dX0_take_31 : decode cX0_take 31 = .ok (.iload 4, 2) := by decide +kernel
theorem dX0_take_33 : decode cX0_take 33 = .ok (.invokespecial 31, 3) := by decide +kernel
theorem dX0_take_36 : decode cX0_take 36 = .ok (.astore 5, 2) := by decide +kernel
theorem dX0_take_38 : decode cX0_take 38 = .ok (.aload_n 0, 1) := by decide +kernel
theorem dX0_take_39 : decode cX0_take 39 = .ok (.getfield 12, 3) := by decide +kernel
theorem dX0_take_42 : decode cX0_take 42 = .ok (.aload 5, 2) := by decide +kernel
theorem dX0_take_44 : decode cX0_take 44 = .ok (.invokevirtual 34, 3) := by decide +kernel
theorem dX0_take_47 : decode cX0_take 47 = .ok (.pop, 1) := by decide +kernel
theorem dX0_take_48 : decode cX0_take 48 = .ok (.aload_n 0, 1) := by decide +kernel
theorem dX0_take_49 : decode cX0_take 49 = .ok (.getfield 18, 3) := by decide +kernel
theorem dX0_take_52 : decode cX0_take 52 = .ok (.aload 5, 2) := by decide +kernel
theorem dX0_take_54 : decode cX0_take 54 = .ok (.invokevirtual 34, 3) := by decide +kernel
theorem dX0_take_57 : decode cX0_take 57 = .ok (.pop, 1) := by decide +kernel
theorem dX0_take_58 : decode cX0_take 58 = .ok (.return_, 1) := by decide +kernel
theorem dX0_keeps_0 : decode cX0_keeps 0 = .ok (.iconst 0, 1) := by decide +kernel
theorem dX0_keeps_1 : decode cX0_keeps 1 = .ok (.istore 4, 2) := by decide +kernel
theorem dX0_keeps_3 : decode cX0_keeps 3 = .ok (.iload 4, 2) := by decide +kernel
theorem dX0_keeps_5 : decode cX0_keeps 5 = .ok (.aload_n 0, 1) := by decide +kernel
theorem dX0_keeps_6 : decode cX0_keeps 6 = .ok (.getfield 18, 3) := by decide +kernel
theorem dX0_keeps_9 : decode cX0_keeps 9 = .ok (.invokevirtual 21, 3) := by decide +kernel
theorem dX0_keeps_12 : decode cX0_keeps 12 = .ok (.if_icmp .ge 32, 3) := by decide +kernel
theorem dX0_keeps_15 : decode cX0_keeps 15 = .ok (.aload_n 0, 1) := by decide +kernel
theorem dX0_keeps_16 : decode cX0_keeps 16 = .ok (.getfield 18, 3) := by decide +kernel
theorem dX0_keeps_19 : decode cX0_keeps 19 = .ok (.iload 4, 2) := by decide +kernel
theorem dX0_keeps_21 : decode cX0_keeps 21 = .ok (.invokevirtual 38, 3) := by decide +kernel
theorem dX0_keeps_24 : decode cX0_keeps 24 = .ok (.checkcast 29, 3) := by decide +kernel
theorem dX0_keeps_27 : decode cX0_keeps 27 = .ok (.iload_n 1, 1) := by decide +kernel
theorem dX0_keeps_28 : decode cX0_keeps 28 = .ok (.iload_n 2, 1) := by decide +kernel
theorem dX0_keeps_29 : decode cX0_keeps 29 = .ok (.iload_n 3, 1) := by decide +kernel
theorem dX0_keeps_30 : decode cX0_keeps 30 = .ok (.invokevirtual 42, 3) := by decide +kernel
theorem dX0_keeps_33 : decode cX0_keeps 33 = .ok (.ifCond .eq 5, 3) := by decide +kernel
theorem dX0_keeps_36 : decode cX0_keeps 36 = .ok (.iconst 1, 1) := by decide +kernel
theorem dX0_keeps_37 : decode cX0_keeps 37 = .ok (.ireturn, 1) := by decide +kernel
theorem dX0_keeps_38 : decode cX0_keeps 38 = .ok (.iinc 4 1, 3) := by decide +kernel
theorem dX0_keeps_41 : decode cX0_keeps 41 = .ok (.goto (-38), 3) := by decide +kernel
theorem dX0_keeps_44 : decode cX0_keeps 44 = .ok (.iconst 0, 1) := by decide +kernel
theorem dX0_keeps_45 : decode cX0_keeps 45 = .ok (.ireturn, 1) := by decide +kernel
theorem dX0_papersTell_0 : decode cX0_papersTell 0 = .ok (.iconst 0, 1) := by decide +kernel
theorem dX0_papersTell_1 : decode cX0_papersTell 1 = .ok (.istore 5, 2) := by decide +kernel
theorem dX0_papersTell_3 : decode cX0_papersTell 3 = .ok (.iload 5, 2) := by decide +kernel
theorem dX0_papersTell_5 : decode cX0_papersTell 5 = .ok (.aload_n 0, 1) := by decide +kernel
theorem dX0_papersTell_6 : decode cX0_papersTell 6 = .ok (.getfield 12, 3) := by decide +kernel
theorem dX0_papersTell_9 : decode cX0_papersTell 9 = .ok (.invokevirtual 21, 3) := by decide +kernel
theorem dX0_papersTell_12 : decode cX0_papersTell 12 = .ok (.if_icmp .ge 46, 3) := by decide +kernel
theorem dX0_papersTell_15 : decode cX0_papersTell 15 = .ok (.aload_n 0, 1) := by decide +kernel
theorem dX0_papersTell_16 : decode cX0_papersTell 16 = .ok (.getfield 12, 3) := by decide +kernel
theorem dX0_papersTell_19 : decode cX0_papersTell 19 = .ok (.iload 5, 2) := by decide +kernel
theorem dX0_papersTell_21 : decode cX0_papersTell 21 = .ok (.invokevirtual 38, 3) := by decide +kernel
theorem dX0_papersTell_24 : decode cX0_papersTell 24 = .ok (.checkcast 29, 3) := by decide +kernel
theorem dX0_papersTell_27 : decode cX0_papersTell 27 = .ok (.astore 6, 2) := by decide +kernel
theorem dX0_papersTell_29 : decode cX0_papersTell 29 = .ok (.aload 6, 2) := by decide +kernel
theorem dX0_papersTell_31 : decode cX0_papersTell 31 = .ok (.iload_n 1, 1) := by decide +kernel
theorem dX0_papersTell_32 : decode cX0_papersTell 32 = .ok (.iload_n 2, 1) := by decide +kernel
theorem dX0_papersTell_33 : decode cX0_papersTell 33 = .ok (.iload_n 3, 1) := by decide +kernel
theorem dX0_papersTell_34 : decode cX0_papersTell 34 = .ok (.invokevirtual 42, 3) := by decide +kernel
theorem dX0_papersTell_37 : decode cX0_papersTell 37 = .ok (.ifCond .eq 15, 3) := by decide +kernel
theorem dX0_papersTell_40 : decode cX0_papersTell 40 = .ok (.aload 6, 2) := by decide +kernel
theorem dX0_papersTell_42 : decode cX0_papersTell 42 = .ok (.getfield 45, 3) := by decide +kernel
theorem dX0_papersTell_45 : decode cX0_papersTell 45 = .ok (.iload 4, 2) := by decide +kernel
theorem dX0_papersTell_47 : decode cX0_papersTell 47 = .ok (.if_icmp .le 5, 3) := by decide +kernel
theorem dX0_papersTell_50 : decode cX0_papersTell 50 = .ok (.iconst 1, 1) := by decide +kernel
theorem dX0_papersTell_51 : decode cX0_papersTell 51 = .ok (.ireturn, 1) := by decide +kernel
theorem dX0_papersTell_52 : decode cX0_papersTell 52 = .ok (.iinc 5 1, 3) := by decide +kernel
theorem dX0_papersTell_55 : decode cX0_papersTell 55 = .ok (.goto (-52), 3) := by decide +kernel
theorem dX0_papersTell_58 : decode cX0_papersTell 58 = .ok (.iconst 0, 1) := by decide +kernel
theorem dX0_papersTell_59 : decode cX0_papersTell 59 = .ok (.ireturn, 1) := by decide +kernel
theorem dX0_eraseDue_0 : decode cX0_eraseDue 0 = .ok (.iconst 0, 1) := by decide +kernel
theorem dX0_eraseDue_1 : decode cX0_eraseDue 1 = .ok (.istore_n 2, 1) := by decide +kernel
theorem dX0_eraseDue_2 : decode cX0_eraseDue 2 = .ok (.aload_n 0, 1) := by decide +kernel
theorem dX0_eraseDue_3 : decode cX0_eraseDue 3 = .ok (.getfield 18, 3) := by decide +kernel
theorem dX0_eraseDue_6 : decode cX0_eraseDue 6 = .ok (.invokevirtual 21, 3) := by decide +kernel
theorem dX0_eraseDue_9 : decode cX0_eraseDue 9 = .ok (.iconst 1, 1) := by decide +kernel
theorem dX0_eraseDue_10 : decode cX0_eraseDue 10 = .ok (.isub, 1) := by decide +kernel
theorem dX0_eraseDue_11 : decode cX0_eraseDue 11 = .ok (.istore_n 3, 1) := by decide +kernel
theorem dX0_eraseDue_12 : decode cX0_eraseDue 12 = .ok (.iload_n 3, 1) := by decide +kernel
theorem dX0_eraseDue_13 : decode cX0_eraseDue 13 = .ok (.ifCond .lt 39, 3) := by decide +kernel
theorem dX0_eraseDue_16 : decode cX0_eraseDue 16 = .ok (.aload_n 0, 1) := by decide +kernel
theorem dX0_eraseDue_17 : decode cX0_eraseDue 17 = .ok (.getfield 18, 3) := by decide +kernel
theorem dX0_eraseDue_20 : decode cX0_eraseDue 20 = .ok (.iload_n 3, 1) := by decide +kernel
theorem dX0_eraseDue_21 : decode cX0_eraseDue 21 = .ok (.invokevirtual 38, 3) := by decide +kernel
theorem dX0_eraseDue_24 : decode cX0_eraseDue 24 = .ok (.checkcast 29, 3) := by decide +kernel
theorem dX0_eraseDue_27 : decode cX0_eraseDue 27 = .ok (.getfield 45, 3) := by decide +kernel
theorem dX0_eraseDue_30 : decode cX0_eraseDue 30 = .ok (.iload_n 1, 1) := by decide +kernel
theorem dX0_eraseDue_31 : decode cX0_eraseDue 31 = .ok (.if_icmp .gt 15, 3) := by decide +kernel
theorem dX0_eraseDue_34 : decode cX0_eraseDue 34 = .ok (.aload_n 0, 1) := by decide +kernel
theorem dX0_eraseDue_35 : decode cX0_eraseDue 35 = .ok (.getfield 18, 3) := by decide +kernel
theorem dX0_eraseDue_38 : decode cX0_eraseDue 38 = .ok (.iload_n 3, 1) := by decide +kernel
theorem dX0_eraseDue_39 : decode cX0_eraseDue 39 = .ok (.invokevirtual 49, 3) := by decide +kernel
theorem dX0_eraseDue_42 : decode cX0_eraseDue 42 = .ok (.pop, 1) := by decide +kernel
theorem dX0_eraseDue_43 : decode cX0_eraseDue 43 = .ok (.iinc 2 1, 3) := by decide +kernel
theorem dX0_eraseDue_46 : decode cX0_eraseDue 46 = .ok (.iinc 3 (-1), 3) := by decide +kernel
theorem dX0_eraseDue_49 : decode cX0_eraseDue 49 = .ok (.goto (-37), 3) := by decide +kernel
theorem dX0_eraseDue_52 : decode cX0_eraseDue 52 = .ok (.iload_n 2, 1) := by decide +kernel
theorem dX0_eraseDue_53 : decode cX0_eraseDue 53 = .ok (.ireturn, 1) := by decide +kernel
theorem dX1_init_0 : decode cX1_init 0 = .ok (.aload_n 0, 1) := by decide +kernel
theorem dX1_init_1 : decode cX1_init 1 = .ok (.invokespecial 3, 3) := by decide +kernel
theorem dX1_init_4 : decode cX1_init 4 = .ok (.aload_n 0, 1) := by decide +kernel
theorem dX1_init_5 : decode cX1_init 5 = .ok (.iconst 0, 1) := by decide +kernel
theorem dX1_init_6 : decode cX1_init 6 = .ok (.putfield 9, 3) := by decide +kernel
theorem dX1_init_9 : decode cX1_init 9 = .ok (.aload_n 0, 1) := by decide +kernel
theorem dX1_init_10 : decode cX1_init 10 = .ok (.bipush 50, 2) := by decide +kernel
theorem dX1_init_12 : decode cX1_init 12 = .ok (.putfield 15, 3) := by decide +kernel
theorem dX1_init_15 : decode cX1_init 15 = .ok (.aload_n 0, 1) := by decide +kernel
theorem dX1_init_16 : decode cX1_init 16 = .ok (.iconst 1, 1) := by decide +kernel
theorem dX1_init_17 : decode cX1_init 17 = .ok (.putfield 18, 3) := by decide +kernel
theorem dX1_init_20 : decode cX1_init 20 = .ok (.aload_n 0, 1) := by decide +kernel
theorem dX1_init_21 : decode cX1_init 21 = .ok (.iload_n 1, 1) := by decide +kernel
theorem dX1_init_22 : decode cX1_init 22 = .ok (.putfield 22, 3) := by decide +kernel
theorem dX1_init_25 : decode cX1_init 25 = .ok (.return_, 1) := by decide +kernel
theorem dX2_init_0 : decode cX2_init 0 = .ok (.aload_n 0, 1) := by decide +kernel
theorem dX2_init_1 : decode cX2_init 1 = .ok (.invokespecial 1, 3) := by decide +kernel
theorem dX2_init_4 : decode cX2_init 4 = .ok (.aload_n 0, 1) := by decide +kernel
theorem dX2_init_5 : decode cX2_init 5 = .ok (.iload_n 1, 1) := by decide +kernel
theorem dX2_init_6 : decode cX2_init 6 = .ok (.putfield 7, 3) := by decide +kernel
theorem dX2_init_9 : decode cX2_init 9 = .ok (.aload_n 0, 1) := by decide +kernel
theorem dX2_init_10 : decode cX2_init 10 = .ok (.iload_n 2, 1) := by decide +kernel
theorem dX2_init_11 : decode cX2_init 11 = .ok (.putfield 13, 3) := by decide +kernel
theorem dX2_init_14 : decode cX2_init 14 = .ok (.aload_n 0, 1) := by decide +kernel
theorem dX2_init_15 : decode cX2_init 15 = .ok (.iload_n 3, 1) := by decide +kernel
theorem dX2_init_16 : decode cX2_init 16 = .ok (.putfield 16, 3) := by decide +kernel
theorem dX2_init_19 : decode cX2_init 19 = .ok (.aload_n 0, 1) := by decide +kernel
theorem dX2_init_20 : decode cX2_init 20 = .ok (.iload 4, 2) := by decide +kernel
theorem dX2_init_22 : decode cX2_init 22 = .ok (.putfield 19, 3) := by decide +kernel
theorem dX2_init_25 : decode cX2_init 25 = .ok (.return_, 1) := by decide +kernel
theorem dX2_isOf_0 : decode cX2_isOf 0 = .ok (.aload_n 0, 1) := by decide +kernel
theorem dX2_isOf_1 : decode cX2_isOf 1 = .ok (.getfield 7, 3) := by decide +kernel
theorem dX2_isOf_4 : decode cX2_isOf 4 = .ok (.iload_n 1, 1) := by decide +kernel
theorem dX2_isOf_5 : decode cX2_isOf 5 = .ok (.if_icmp .ne 23, 3) := by decide +kernel
theorem dX2_isOf_8 : decode cX2_isOf 8 = .ok (.aload_n 0, 1) := by decide +kernel
theorem dX2_isOf_9 : decode cX2_isOf 9 = .ok (.getfield 13, 3) := by decide +kernel
theorem dX2_isOf_12 : decode cX2_isOf 12 = .ok (.iload_n 2, 1) := by decide +kernel
theorem dX2_isOf_13 : decode cX2_isOf 13 = .ok (.if_icmp .ne 15, 3) := by decide +kernel
theorem dX2_isOf_16 : decode cX2_isOf 16 = .ok (.aload_n 0, 1) := by decide +kernel
theorem dX2_isOf_17 : decode cX2_isOf 17 = .ok (.getfield 16, 3) := by decide +kernel
theorem dX2_isOf_20 : decode cX2_isOf 20 = .ok (.iload_n 3, 1) := by decide +kernel
theorem dX2_isOf_21 : decode cX2_isOf 21 = .ok (.if_icmp .ne 7, 3) := by decide +kernel
theorem dX2_isOf_24 : decode cX2_isOf 24 = .ok (.iconst 1, 1) := by decide +kernel
theorem dX2_isOf_25 : decode cX2_isOf 25 = .ok (.goto 4, 3) := by decide +kernel
theorem dX2_isOf_28 : decode cX2_isOf 28 = .ok (.iconst 0, 1) := by decide +kernel
theorem dX2_isOf_29 : decode cX2_isOf 29 = .ok (.ireturn, 1) := by decide +kernel
theorem dX3_init_0 : decode cX3_init 0 = .ok (.aload_n 0, 1) := by decide +kernel
theorem dX3_init_1 : decode cX3_init 1 = .ok (.invokespecial 3, 3) := by decide +kernel
theorem dX3_init_4 : decode cX3_init 4 = .ok (.aload_n 0, 1) := by decide +kernel
theorem dX3_init_5 : decode cX3_init 5 = .ok (.iconst 0, 1) := by decide +kernel
theorem dX3_init_6 : decode cX3_init 6 = .ok (.putfield 9, 3) := by decide +kernel
theorem dX3_init_9 : decode cX3_init 9 = .ok (.aload_n 0, 1) := by decide +kernel
theorem dX3_init_10 : decode cX3_init 10 = .ok (.iconst 1, 1) := by decide +kernel
theorem dX3_init_11 : decode cX3_init 11 = .ok (.putfield 15, 3) := by decide +kernel
theorem dX3_init_14 : decode cX3_init 14 = .ok (.aload_n 0, 1) := by decide +kernel
theorem dX3_init_15 : decode cX3_init 15 = .ok (.iconst 0, 1) := by decide +kernel
theorem dX3_init_16 : decode cX3_init 16 = .ok (.putfield 18, 3) := by decide +kernel
theorem dX3_init_19 : decode cX3_init 19 = .ok (.aload_n 0, 1) := by decide +kernel
theorem dX3_init_20 : decode cX3_init 20 = .ok (.iconst 3, 1) := by decide +kernel
theorem dX3_init_21 : decode cX3_init 21 = .ok (.newarray .int, 2) := by decide +kernel
theorem dX3_init_23 : decode cX3_init 23 = .ok (.putfield 22, 3) := by decide +kernel
theorem dX3_init_26 : decode cX3_init 26 = .ok (.iconst 0, 1) := by decide +kernel
theorem dX3_init_27 : decode cX3_init 27 = .ok (.istore_n 1, 1) := by decide +kernel
theorem dX3_init_28 : decode cX3_init 28 = .ok (.iload_n 1, 1) := by decide +kernel
theorem dX3_init_29 : decode cX3_init 29 = .ok (.aload_n 0, 1) := by decide +kernel
theorem dX3_init_30 : decode cX3_init 30 = .ok (.getfield 22, 3) := by decide +kernel
theorem dX3_init_33 : decode cX3_init 33 = .ok (.arraylength, 1) := by decide +kernel
theorem dX3_init_34 : decode cX3_init 34 = .ok (.if_icmp .ge 17, 3) := by decide +kernel
theorem dX3_init_37 : decode cX3_init 37 = .ok (.aload_n 0, 1) := by decide +kernel
theorem dX3_init_38 : decode cX3_init 38 = .ok (.getfield 22, 3) := by decide +kernel
theorem dX3_init_41 : decode cX3_init 41 = .ok (.iload_n 1, 1) := by decide +kernel
theorem dX3_init_42 : decode cX3_init 42 = .ok (.bipush 7, 2) := by decide +kernel
theorem dX3_init_44 : decode cX3_init 44 = .ok (.iastore, 1) := by decide +kernel
theorem dX3_init_45 : decode cX3_init 45 = .ok (.iinc 1 1, 3) := by decide +kernel
theorem dX3_init_48 : decode cX3_init 48 = .ok (.goto (-20), 3) := by decide +kernel
theorem dX3_init_51 : decode cX3_init 51 = .ok (.return_, 1) := by decide +kernel
theorem dX3_setVote_0 : decode cX3_setVote 0 = .ok (.iload_n 1, 1) := by decide +kernel
theorem dX3_setVote_1 : decode cX3_setVote 1 = .ok (.ifCond .lt 19, 3) := by decide +kernel
theorem dX3_setVote_4 : decode cX3_setVote 4 = .ok (.iload_n 1, 1) := by decide +kernel
theorem dX3_setVote_5 : decode cX3_setVote 5 = .ok (.aload_n 0, 1) := by decide +kernel
theorem dX3_setVote_6 : decode cX3_setVote 6 = .ok (.getfield 22, 3) := by decide +kernel
theorem dX3_setVote_9 : decode cX3_setVote 9 = .ok (.arraylength, 1) := by decide +kernel
theorem dX3_setVote_10 : decode cX3_setVote 10 = .ok (.if_icmp .ge 10, 3) := by decide +kernel
theorem dX3_setVote_13 : decode cX3_setVote 13 = .ok (.aload_n 0, 1) := by decide +kernel
theorem dX3_setVote_14 : decode cX3_setVote 14 = .ok (.getfield 22, 3) := by decide +kernel
theorem dX3_setVote_17 : decode cX3_setVote 17 = .ok (.iload_n 1, 1) := by decide +kernel
theorem dX3_setVote_18 : decode cX3_setVote 18 = .ok (.iload_n 2, 1) := by decide +kernel
theorem dX3_setVote_19 : decode cX3_setVote 19 = .ok (.iastore, 1) := by decide +kernel
theorem dX3_setVote_20 : decode cX3_setVote 20 = .ok (.return_, 1) := by decide +kernel
theorem dX3_daysKept_0 : decode cX3_daysKept 0 = .ok (.iconst 0, 1) := by decide +kernel
theorem dX3_daysKept_1 : decode cX3_daysKept 1 = .ok (.istore_n 1, 1) := by decide +kernel
theorem dX3_daysKept_2 : decode cX3_daysKept 2 = .ok (.bipush 30, 2) := by decide +kernel
theorem dX3_daysKept_4 : decode cX3_daysKept 4 = .ok (.istore_n 2, 1) := by decide +kernel
theorem dX3_daysKept_5 : decode cX3_daysKept 5 = .ok (.iconst 1, 1) := by decide +kernel
theorem dX3_daysKept_6 : decode cX3_daysKept 6 = .ok (.istore_n 3, 1) := by decide +kernel
theorem dX3_daysKept_7 : decode cX3_daysKept 7 = .ok (.aload_n 0, 1) := by decide +kernel
theorem dX3_daysKept_8 : decode cX3_daysKept 8 = .ok (.getfield 22, 3) := by decide +kernel
theorem dX3_daysKept_11 : decode cX3_daysKept 11 = .ok (.astore 4, 2) := by decide +kernel
theorem dX3_daysKept_13 : decode cX3_daysKept 13 = .ok (.aload 4, 2) := by decide +kernel
theorem dX3_daysKept_15 : decode cX3_daysKept 15 = .ok (.arraylength, 1) := by decide +kernel
theorem dX3_daysKept_16 : decode cX3_daysKept 16 = .ok (.istore 5, 2) := by decide +kernel
theorem dX3_daysKept_18 : decode cX3_daysKept 18 = .ok (.iconst 0, 1) := by decide +kernel
theorem dX3_daysKept_19 : decode cX3_daysKept 19 = .ok (.istore 6, 2) := by decide +kernel
theorem dX3_daysKept_21 : decode cX3_daysKept 21 = .ok (.iload 6, 2) := by decide +kernel
theorem dX3_daysKept_23 : decode cX3_daysKept 23 = .ok (.iload 5, 2) := by decide +kernel
theorem dX3_daysKept_25 : decode cX3_daysKept 25 = .ok (.if_icmp .ge 35, 3) := by decide +kernel
theorem dX3_daysKept_28 : decode cX3_daysKept 28 = .ok (.aload 4, 2) := by decide +kernel
theorem dX3_daysKept_30 : decode cX3_daysKept 30 = .ok (.iload 6, 2) := by decide +kernel
theorem dX3_daysKept_32 : decode cX3_daysKept 32 = .ok (.iaload, 1) := by decide +kernel
theorem dX3_daysKept_33 : decode cX3_daysKept 33 = .ok (.istore 7, 2) := by decide +kernel
theorem dX3_daysKept_35 : decode cX3_daysKept 35 = .ok (.iload_n 1, 1) := by decide +kernel
theorem dX3_daysKept_36 : decode cX3_daysKept 36 = .ok (.iload 7, 2) := by decide +kernel
theorem dX3_daysKept_38 : decode cX3_daysKept 38 = .ok (.iadd, 1) := by decide +kernel
theorem dX3_daysKept_39 : decode cX3_daysKept 39 = .ok (.istore_n 1, 1) := by decide +kernel
theorem dX3_daysKept_40 : decode cX3_daysKept 40 = .ok (.iload_n 2, 1) := by decide +kernel
theorem dX3_daysKept_41 : decode cX3_daysKept 41 = .ok (.iload 7, 2) := by decide +kernel
theorem dX3_daysKept_43 : decode cX3_daysKept 43 = .ok (.invokestatic 26, 3) := by decide +kernel
theorem dX3_daysKept_46 : decode cX3_daysKept 46 = .ok (.istore_n 2, 1) := by decide +kernel
theorem dX3_daysKept_47 : decode cX3_daysKept 47 = .ok (.iload_n 3, 1) := by decide +kernel
theorem dX3_daysKept_48 : decode cX3_daysKept 48 = .ok (.iload 7, 2) := by decide +kernel
theorem dX3_daysKept_50 : decode cX3_daysKept 50 = .ok (.invokestatic 32, 3) := by decide +kernel
theorem dX3_daysKept_53 : decode cX3_daysKept 53 = .ok (.istore_n 3, 1) := by decide +kernel
theorem dX3_daysKept_54 : decode cX3_daysKept 54 = .ok (.iinc 6 1, 3) := by decide +kernel
theorem dX3_daysKept_57 : decode cX3_daysKept 57 = .ok (.goto (-36), 3) := by decide +kernel
theorem dX3_daysKept_60 : decode cX3_daysKept 60 = .ok (.iload_n 1, 1) := by decide +kernel
theorem dX3_daysKept_61 : decode cX3_daysKept 61 = .ok (.iload_n 2, 1) := by decide +kernel
theorem dX3_daysKept_62 : decode cX3_daysKept 62 = .ok (.isub, 1) := by decide +kernel
theorem dX3_daysKept_63 : decode cX3_daysKept 63 = .ok (.iload_n 3, 1) := by decide +kernel
theorem dX3_daysKept_64 : decode cX3_daysKept 64 = .ok (.isub, 1) := by decide +kernel
theorem dX3_daysKept_65 : decode cX3_daysKept 65 = .ok (.ireturn, 1) := by decide +kernel
theorem dX4_init_0 : decode cX4_init 0 = .ok (.aload_n 0, 1) := by decide +kernel
theorem dX4_init_1 : decode cX4_init 1 = .ok (.invokespecial 3, 3) := by decide +kernel
theorem dX4_init_4 : decode cX4_init 4 = .ok (.aload_n 0, 1) := by decide +kernel
theorem dX4_init_5 : decode cX4_init 5 = .ok (.iconst 0, 1) := by decide +kernel
theorem dX4_init_6 : decode cX4_init 6 = .ok (.putfield 9, 3) := by decide +kernel
theorem dX4_init_9 : decode cX4_init 9 = .ok (.aload_n 0, 1) := by decide +kernel
theorem dX4_init_10 : decode cX4_init 10 = .ok (.aconst_null, 1) := by decide +kernel
theorem dX4_init_11 : decode cX4_init 11 = .ok (.putfield 15, 3) := by decide +kernel
theorem dX4_init_14 : decode cX4_init 14 = .ok (.aload_n 0, 1) := by decide +kernel
theorem dX4_init_15 : decode cX4_init 15 = .ok (.iconst 0, 1) := by decide +kernel
theorem dX4_init_16 : decode cX4_init 16 = .ok (.putfield 19, 3) := by decide +kernel
theorem dX4_init_19 : decode cX4_init 19 = .ok (.aload_n 0, 1) := by decide +kernel
theorem dX4_init_20 : decode cX4_init 20 = .ok (.iconst 0, 1) := by decide +kernel
theorem dX4_init_21 : decode cX4_init 21 = .ok (.putfield 22, 3) := by decide +kernel
theorem dX4_init_24 : decode cX4_init 24 = .ok (.aload_n 0, 1) := by decide +kernel
theorem dX4_init_25 : decode cX4_init 25 = .ok (.iload_n 1, 1) := by decide +kernel
theorem dX4_init_26 : decode cX4_init 26 = .ok (.putfield 26, 3) := by decide +kernel
theorem dX4_init_29 : decode cX4_init 29 = .ok (.aload_n 0, 1) := by decide +kernel
theorem dX4_init_30 : decode cX4_init 30 = .ok (.iload_n 2, 1) := by decide +kernel
theorem dX4_init_31 : decode cX4_init 31 = .ok (.putfield 29, 3) := by decide +kernel
theorem dX4_init_34 : decode cX4_init 34 = .ok (.aload_n 0, 1) := by decide +kernel
theorem dX4_init_35 : decode cX4_init 35 = .ok (.iload_n 3, 1) := by decide +kernel
theorem dX4_init_36 : decode cX4_init 36 = .ok (.putfield 32, 3) := by decide +kernel
theorem dX4_init_39 : decode cX4_init 39 = .ok (.return_, 1) := by decide +kernel
theorem dX5_init_0 : decode cX5_init 0 = .ok (.aload_n 0, 1) := by decide +kernel
theorem dX5_init_1 : decode cX5_init 1 = .ok (.invokespecial 1, 3) := by decide +kernel
theorem dX5_init_4 : decode cX5_init 4 = .ok (.aload_n 0, 1) := by decide +kernel
theorem dX5_init_5 : decode cX5_init 5 = .ok (.bipush 8, 2) := by decide +kernel
theorem dX5_init_7 : decode cX5_init 7 = .ok (.anewarray 9, 3) := by decide +kernel
theorem dX5_init_10 : decode cX5_init 10 = .ok (.putfield 11, 3) := by decide +kernel
theorem dX5_init_13 : decode cX5_init 13 = .ok (.aload_n 0, 1) := by decide +kernel
theorem dX5_init_14 : decode cX5_init 14 = .ok (.iconst 4, 1) := by decide +kernel
theorem dX5_init_15 : decode cX5_init 15 = .ok (.anewarray 15, 3) := by decide +kernel
theorem dX5_init_18 : decode cX5_init 18 = .ok (.putfield 17, 3) := by decide +kernel
theorem dX5_init_21 : decode cX5_init 21 = .ok (.aload_n 0, 1) := by decide +kernel
theorem dX5_init_22 : decode cX5_init 22 = .ok (.new 21, 3) := by decide +kernel
theorem dX5_init_25 : decode cX5_init 25 = .ok (.dup, 1) := by decide +kernel
theorem dX5_init_26 : decode cX5_init 26 = .ok (.invokespecial 23, 3) := by decide +kernel
theorem dX5_init_29 : decode cX5_init 29 = .ok (.putfield 24, 3) := by decide +kernel
theorem dX5_init_32 : decode cX5_init 32 = .ok (.aload_n 0, 1) := by decide +kernel
theorem dX5_init_33 : decode cX5_init 33 = .ok (.new 28, 3) := by decide +kernel
theorem dX5_init_36 : decode cX5_init 36 = .ok (.dup, 1) := by decide +kernel
theorem dX5_init_37 : decode cX5_init 37 = .ok (.invokespecial 30, 3) := by decide +kernel
theorem dX5_init_40 : decode cX5_init 40 = .ok (.putfield 31, 3) := by decide +kernel
theorem dX5_init_43 : decode cX5_init 43 = .ok (.aload_n 0, 1) := by decide +kernel
theorem dX5_init_44 : decode cX5_init 44 = .ok (.iconst 0, 1) := by decide +kernel
theorem dX5_init_45 : decode cX5_init 45 = .ok (.putfield 35, 3) := by decide +kernel
theorem dX5_init_48 : decode cX5_init 48 = .ok (.aload_n 0, 1) := by decide +kernel
theorem dX5_init_49 : decode cX5_init 49 = .ok (.iconst 0, 1) := by decide +kernel
theorem dX5_init_50 : decode cX5_init 50 = .ok (.putfield 39, 3) := by decide +kernel
theorem dX5_init_53 : decode cX5_init 53 = .ok (.iconst 0, 1) := by decide +kernel
theorem dX5_init_54 : decode cX5_init 54 = .ok (.istore_n 1, 1) := by decide +kernel
theorem dX5_init_55 : decode cX5_init 55 = .ok (.iload_n 1, 1) := by decide +kernel
theorem dX5_init_56 : decode cX5_init 56 = .ok (.aload_n 0, 1) := by decide +kernel
theorem dX5_init_57 : decode cX5_init 57 = .ok (.getfield 11, 3) := by decide +kernel
theorem dX5_init_60 : decode cX5_init 60 = .ok (.arraylength, 1) := by decide +kernel
theorem dX5_init_61 : decode cX5_init 61 = .ok (.if_icmp .ge 22, 3) := by decide +kernel
theorem dX5_init_64 : decode cX5_init 64 = .ok (.aload_n 0, 1) := by decide +kernel
theorem dX5_init_65 : decode cX5_init 65 = .ok (.getfield 11, 3) := by decide +kernel
theorem dX5_init_68 : decode cX5_init 68 = .ok (.iload_n 1, 1) := by decide +kernel
theorem dX5_init_69 : decode cX5_init 69 = .ok (.new 9, 3) := by decide +kernel
theorem dX5_init_72 : decode cX5_init 72 = .ok (.dup, 1) := by decide +kernel
theorem dX5_init_73 : decode cX5_init 73 = .ok (.invokespecial 42, 3) := by decide +kernel
theorem dX5_init_76 : decode cX5_init 76 = .ok (.aastore, 1) := by decide +kernel
theorem dX5_init_77 : decode cX5_init 77 = .ok (.iinc 1 1, 3) := by decide +kernel
theorem dX5_init_80 : decode cX5_init 80 = .ok (.goto (-25), 3) := by decide +kernel
theorem dX5_init_83 : decode cX5_init 83 = .ok (.iconst 0, 1) := by decide +kernel
theorem dX5_init_84 : decode cX5_init 84 = .ok (.istore_n 1, 1) := by decide +kernel
theorem dX5_init_85 : decode cX5_init 85 = .ok (.iload_n 1, 1) := by decide +kernel
theorem dX5_init_86 : decode cX5_init 86 = .ok (.aload_n 0, 1) := by decide +kernel
theorem dX5_init_87 : decode cX5_init 87 = .ok (.getfield 17, 3) := by decide +kernel
theorem dX5_init_90 : decode cX5_init 90 = .ok (.arraylength, 1) := by decide +kernel
theorem dX5_init_91 : decode cX5_init 91 = .ok (.if_icmp .ge 23, 3) := by decide +kernel
theorem dX5_init_94 : decode cX5_init 94 = .ok (.aload_n 0, 1) := by decide +kernel
theorem dX5_init_95 : decode cX5_init 95 = .ok (.getfield 17, 3) := by decide +kernel
theorem dX5_init_98 : decode cX5_init 98 = .ok (.iload_n 1, 1) := by decide +kernel
theorem dX5_init_99 : decode cX5_init 99 = .ok (.new 15, 3) := by decide +kernel
theorem dX5_init_102 : decode cX5_init 102 = .ok (.dup, 1) := by decide +kernel
theorem dX5_init_103 : decode cX5_init 103 = .ok (.iload_n 1, 1) := by decide +kernel
theorem dX5_init_104 : decode cX5_init 104 = .ok (.invokespecial 43, 3) := by decide +kernel
theorem dX5_init_107 : decode cX5_init 107 = .ok (.aastore, 1) := by decide +kernel
theorem dX5_init_108 : decode cX5_init 108 = .ok (.iinc 1 1, 3) := by decide +kernel
theorem dX5_init_111 : decode cX5_init 111 = .ok (.goto (-26), 3) := by decide +kernel
theorem dX5_init_114 : decode cX5_init 114 = .ok (.return_, 1) := by decide +kernel
theorem dX5_pay_0 : decode cX5_pay 0 = .ok (.aload_n 0, 1) := by decide +kernel
theorem dX5_pay_1 : decode cX5_pay 1 = .ok (.iload_n 1, 1) := by decide +kernel
theorem dX5_pay_2 : decode cX5_pay 2 = .ok (.invokevirtual 46, 3) := by decide +kernel
theorem dX5_pay_5 : decode cX5_pay 5 = .ok (.astore_n 3, 1) := by decide +kernel
theorem dX5_pay_6 : decode cX5_pay 6 = .ok (.aload_n 3, 1) := by decide +kernel
theorem dX5_pay_7 : decode cX5_pay 7 = .ok (.ifnonnull 13, 3) := by decide +kernel
theorem dX5_pay_10 : decode cX5_pay 10 = .ok (.new 50, 3) := by decide +kernel
theorem dX5_pay_13 : decode cX5_pay 13 = .ok (.dup, 1) := by decide +kernel
theorem dX5_pay_14 : decode cX5_pay 14 = .ok (.ldc 52, 2) := by decide +kernel
theorem dX5_pay_16 : decode cX5_pay 16 = .ok (.invokespecial 54, 3) := by decide +kernel
theorem dX5_pay_19 : decode cX5_pay 19 = .ok (.athrow, 1) := by decide +kernel
theorem dX5_pay_20 : decode cX5_pay 20 = .ok (.iload_n 2, 1) := by decide +kernel
theorem dX5_pay_21 : decode cX5_pay 21 = .ok (.iconst 1, 1) := by decide +kernel
theorem dX5_pay_22 : decode cX5_pay 22 = .ok (.if_icmp .lt 10, 3) := by decide +kernel
theorem dX5_pay_25 : decode cX5_pay 25 = .ok (.iload_n 2, 1) := by decide +kernel
theorem dX5_pay_26 : decode cX5_pay 26 = .ok (.sipush 10000, 3) := by decide +kernel
theorem dX5_pay_29 : decode cX5_pay 29 = .ok (.if_icmp .le 13, 3) := by decide +kernel
theorem dX5_pay_32 : decode cX5_pay 32 = .ok (.new 57, 3) := by decide +kernel
theorem dX5_pay_35 : decode cX5_pay 35 = .ok (.dup, 1) := by decide +kernel
theorem dX5_pay_36 : decode cX5_pay 36 = .ok (.ldc 59, 2) := by decide +kernel
theorem dX5_pay_38 : decode cX5_pay 38 = .ok (.invokespecial 61, 3) := by decide +kernel
theorem dX5_pay_41 : decode cX5_pay 41 = .ok (.athrow, 1) := by decide +kernel
theorem dX5_pay_42 : decode cX5_pay 42 = .ok (.aload_n 3, 1) := by decide +kernel
theorem dX5_pay_43 : decode cX5_pay 43 = .ok (.getfield 62, 3) := by decide +kernel
theorem dX5_pay_46 : decode cX5_pay 46 = .ok (.ldc 65, 2) := by decide +kernel
theorem dX5_pay_48 : decode cX5_pay 48 = .ok (.iload_n 2, 1) := by decide +kernel
theorem dX5_pay_49 : decode cX5_pay 49 = .ok (.isub, 1) := by decide +kernel
theorem dX5_pay_50 : decode cX5_pay 50 = .ok (.if_icmp .le 13, 3) := by decide +kernel
theorem dX5_pay_53 : decode cX5_pay 53 = .ok (.new 66, 3) := by decide +kernel
theorem dX5_pay_56 : decode cX5_pay 56 = .ok (.dup, 1) := by decide +kernel
theorem dX5_pay_57 : decode cX5_pay 57 = .ok (.ldc 68, 2) := by decide +kernel
theorem dX5_pay_59 : decode cX5_pay 59 = .ok (.invokespecial 70, 3) := by decide +kernel
theorem dX5_pay_62 : decode cX5_pay 62 = .ok (.athrow, 1) := by decide +kernel
theorem dX5_pay_63 : decode cX5_pay 63 = .ok (.aload_n 3, 1) := by decide +kernel
theorem dX5_pay_64 : decode cX5_pay 64 = .ok (.dup, 1) := by decide +kernel
theorem dX5_pay_65 : decode cX5_pay 65 = .ok (.getfield 62, 3) := by decide +kernel
theorem dX5_pay_68 : decode cX5_pay 68 = .ok (.iload_n 2, 1) := by decide +kernel
theorem dX5_pay_69 : decode cX5_pay 69 = .ok (.iadd, 1) := by decide +kernel
theorem dX5_pay_70 : decode cX5_pay 70 = .ok (.putfield 62, 3) := by decide +kernel
theorem dX5_pay_73 : decode cX5_pay 73 = .ok (.aload_n 3, 1) := by decide +kernel
theorem dX5_pay_74 : decode cX5_pay 74 = .ok (.getfield 62, 3) := by decide +kernel
theorem dX5_pay_77 : decode cX5_pay 77 = .ok (.ireturn, 1) := by decide +kernel
theorem dX5_setStreet_0 : decode cX5_setStreet 0 = .ok (.aload_n 0, 1) := by decide +kernel
theorem dX5_setStreet_1 : decode cX5_setStreet 1 = .ok (.iload_n 1, 1) := by decide +kernel
theorem dX5_setStreet_2 : decode cX5_setStreet 2 = .ok (.invokevirtual 46, 3) := by decide +kernel
theorem dX5_setStreet_5 : decode cX5_setStreet 5 = .ok (.astore 4, 2) := by decide +kernel
theorem dX5_setStreet_7 : decode cX5_setStreet 7 = .ok (.aload 4, 2) := by decide +kernel
theorem dX5_setStreet_9 : decode cX5_setStreet 9 = .ok (.ifnonnull 13, 3) := by decide +kernel
theorem dX5_setStreet_12 : decode cX5_setStreet 12 = .ok (.new 50, 3) := by decide +kernel
theorem dX5_setStreet_15 : decode cX5_setStreet 15 = .ok (.dup, 1) := by decide +kernel
theorem dX5_setStreet_16 : decode cX5_setStreet 16 = .ok (.ldc 52, 2) := by decide +kernel
theorem dX5_setStreet_18 : decode cX5_setStreet 18 = .ok (.invokespecial 54, 3) := by decide +kernel
theorem dX5_setStreet_21 : decode cX5_setStreet 21 = .ok (.athrow, 1) := by decide +kernel
theorem dX5_setStreet_22 : decode cX5_setStreet 22 = .ok (.iload_n 2, 1) := by decide +kernel
theorem dX5_setStreet_23 : decode cX5_setStreet 23 = .ok (.ifCond .lt 9, 3) := by decide +kernel
theorem dX5_setStreet_26 : decode cX5_setStreet 26 = .ok (.iload_n 2, 1) := by decide +kernel
theorem dX5_setStreet_27 : decode cX5_setStreet 27 = .ok (.bipush 50, 2) := by decide +kernel
theorem dX5_setStreet_29 : decode cX5_setStreet 29 = .ok (.if_icmp .le 13, 3) := by decide +kernel
theorem dX5_setStreet_32 : decode cX5_setStreet 32 = .ok (.new 57, 3) := by decide +kernel
theorem dX5_setStreet_35 : decode cX5_setStreet 35 = .ok (.dup, 1) := by decide +kernel
theorem dX5_setStreet_36 : decode cX5_setStreet 36 = .ok (.ldc 71, 2) := by decide +kernel
theorem dX5_setStreet_38 : decode cX5_setStreet 38 = .ok (.invokespecial 61, 3) := by decide +kernel
theorem dX5_setStreet_41 : decode cX5_setStreet 41 = .ok (.athrow, 1) := by decide +kernel
theorem dX5_setStreet_42 : decode cX5_setStreet 42 = .ok (.aload 4, 2) := by decide +kernel
theorem dX5_setStreet_44 : decode cX5_setStreet 44 = .ok (.getfield 73, 3) := by decide +kernel
theorem dX5_setStreet_47 : decode cX5_setStreet 47 = .ok (.istore 5, 2) := by decide +kernel
theorem dX5_setStreet_49 : decode cX5_setStreet 49 = .ok (.aload 4, 2) := by decide +kernel
theorem dX5_setStreet_51 : decode cX5_setStreet 51 = .ok (.iload_n 2, 1) := by decide +kernel
theorem dX5_setStreet_52 : decode cX5_setStreet 52 = .ok (.putfield 73, 3) := by decide +kernel
theorem dX5_setStreet_55 : decode cX5_setStreet 55 = .ok (.aload 4, 2) := by decide +kernel
theorem dX5_setStreet_57 : decode cX5_setStreet 57 = .ok (.iload_n 3, 1) := by decide +kernel
theorem dX5_setStreet_58 : decode cX5_setStreet 58 = .ok (.putfield 76, 3) := by decide +kernel
theorem dX5_setStreet_61 : decode cX5_setStreet 61 = .ok (.iload 5, 2) := by decide +kernel
theorem dX5_setStreet_63 : decode cX5_setStreet 63 = .ok (.ireturn, 1) := by decide +kernel
theorem dX5_vote_0 : decode cX5_vote 0 = .ok (.aload_n 0, 1) := by decide +kernel
theorem dX5_vote_1 : decode cX5_vote 1 = .ok (.iload_n 1, 1) := by decide +kernel
theorem dX5_vote_2 : decode cX5_vote 2 = .ok (.invokevirtual 46, 3) := by decide +kernel
theorem dX5_vote_5 : decode cX5_vote 5 = .ok (.astore 4, 2) := by decide +kernel
theorem dX5_vote_7 : decode cX5_vote 7 = .ok (.aload 4, 2) := by decide +kernel
theorem dX5_vote_9 : decode cX5_vote 9 = .ok (.ifnonnull 13, 3) := by decide +kernel
theorem dX5_vote_12 : decode cX5_vote 12 = .ok (.new 50, 3) := by decide +kernel
theorem dX5_vote_15 : decode cX5_vote 15 = .ok (.dup, 1) := by decide +kernel
theorem dX5_vote_16 : decode cX5_vote 16 = .ok (.ldc 52, 2) := by decide +kernel
theorem dX5_vote_18 : decode cX5_vote 18 = .ok (.invokespecial 54, 3) := by decide +kernel
theorem dX5_vote_21 : decode cX5_vote 21 = .ok (.athrow, 1) := by decide +kernel
theorem dX5_vote_22 : decode cX5_vote 22 = .ok (.iload_n 2, 1) := by decide +kernel
theorem dX5_vote_23 : decode cX5_vote 23 = .ok (.ifCond .lt 8, 3) := by decide +kernel
theorem dX5_vote_26 : decode cX5_vote 26 = .ok (.iload_n 2, 1) := by decide +kernel
theorem dX5_vote_27 : decode cX5_vote 27 = .ok (.iconst 3, 1) := by decide +kernel
theorem dX5_vote_28 : decode cX5_vote 28 = .ok (.if_icmp .lt 13, 3) := by decide +kernel
theorem dX5_vote_31 : decode cX5_vote 31 = .ok (.new 50, 3) := by decide +kernel
theorem dX5_vote_34 : decode cX5_vote 34 = .ok (.dup, 1) := by decide +kernel
theorem dX5_vote_35 : decode cX5_vote 35 = .ok (.ldc 80, 2) := by decide +kernel
theorem dX5_vote_37 : decode cX5_vote 37 = .ok (.invokespecial 54, 3) := by decide +kernel
theorem dX5_vote_40 : decode cX5_vote 40 = .ok (.athrow, 1) := by decide +kernel
theorem dX5_vote_41 : decode cX5_vote 41 = .ok (.iload_n 3, 1) := by decide +kernel
theorem dX5_vote_42 : decode cX5_vote 42 = .ok (.iconst 1, 1) := by decide +kernel
theorem dX5_vote_43 : decode cX5_vote 43 = .ok (.if_icmp .lt 9, 3) := by decide +kernel
theorem dX5_vote_46 : decode cX5_vote 46 = .ok (.iload_n 3, 1) := by decide +kernel
theorem dX5_vote_47 : decode cX5_vote 47 = .ok (.bipush 30, 2) := by decide +kernel
theorem dX5_vote_49 : decode cX5_vote 49 = .ok (.if_icmp .le 13, 3) := by decide +kernel
theorem dX5_vote_52 : decode cX5_vote 52 = .ok (.new 57, 3) := by decide +kernel
theorem dX5_vote_55 : decode cX5_vote 55 = .ok (.dup, 1) := by decide +kernel
theorem dX5_vote_56 : decode cX5_vote 56 = .ok (.ldc 82, 2) := by decide +kernel
theorem dX5_vote_58 : decode cX5_vote 58 = .ok (.invokespecial 61, 3) := by decide +kernel
theorem dX5_vote_61 : decode cX5_vote 61 = .ok (.athrow, 1) := by decide +kernel
theorem dX5_vote_62 : decode cX5_vote 62 = .ok (.aload 4, 2) := by decide +kernel
theorem dX5_vote_64 : decode cX5_vote 64 = .ok (.iload_n 2, 1) := by decide +kernel
theorem dX5_vote_65 : decode cX5_vote 65 = .ok (.iload_n 3, 1) := by decide +kernel
theorem dX5_vote_66 : decode cX5_vote 66 = .ok (.invokevirtual 84, 3) := by decide +kernel
theorem dX5_vote_69 : decode cX5_vote 69 = .ok (.aload 4, 2) := by decide +kernel
theorem dX5_vote_71 : decode cX5_vote 71 = .ok (.invokevirtual 88, 3) := by decide +kernel
theorem dX5_vote_74 : decode cX5_vote 74 = .ok (.ireturn, 1) := by decide +kernel
theorem dX5_place_0 : decode cX5_place 0 = .ok (.aload_n 0, 1) := by decide +kernel
theorem dX5_place_1 : decode cX5_place 1 = .ok (.iload_n 1, 1) := by decide +kernel
theorem dX5_place_2 : decode cX5_place 2 = .ok (.invokevirtual 92, 3) := by decide +kernel
theorem dX5_place_5 : decode cX5_place 5 = .ok (.astore_n 3, 1) := by decide +kernel
theorem dX5_place_6 : decode cX5_place 6 = .ok (.aload_n 3, 1) := by decide +kernel
theorem dX5_place_7 : decode cX5_place 7 = .ok (.ifnonnull 13, 3) := by decide +kernel
theorem dX5_place_10 : decode cX5_place 10 = .ok (.new 50, 3) := by decide +kernel
theorem dX5_place_13 : decode cX5_place 13 = .ok (.dup, 1) := by decide +kernel
theorem dX5_place_14 : decode cX5_place 14 = .ok (.ldc 96, 2) := by decide +kernel
theorem dX5_place_16 : decode cX5_place 16 = .ok (.invokespecial 54, 3) := by decide +kernel
theorem dX5_place_19 : decode cX5_place 19 = .ok (.athrow, 1) := by decide +kernel
theorem dX5_place_20 : decode cX5_place 20 = .ok (.iload_n 2, 1) := by decide +kernel
theorem dX5_place_21 : decode cX5_place 21 = .ok (.invokestatic 98, 3) := by decide +kernel
theorem dX5_place_24 : decode cX5_place 24 = .ok (.ifCond .ne 13, 3) := by decide +kernel
theorem dX5_place_27 : decode cX5_place 27 = .ok (.new 50, 3) := by decide +kernel
theorem dX5_place_30 : decode cX5_place 30 = .ok (.dup, 1) := by decide +kernel
theorem dX5_place_31 : decode cX5_place 31 = .ok (.ldc 52, 2) := by decide +kernel
theorem dX5_place_33 : decode cX5_place 33 = .ok (.invokespecial 54, 3) := by decide +kernel
theorem dX5_place_36 : decode cX5_place 36 = .ok (.athrow, 1) := by decide +kernel
theorem dX5_place_37 : decode cX5_place 37 = .ok (.aload_n 3, 1) := by decide +kernel
theorem dX5_place_38 : decode cX5_place 38 = .ok (.getfield 102, 3) := by decide +kernel
theorem dX5_place_41 : decode cX5_place 41 = .ok (.ifCond .ne 13, 3) := by decide +kernel
theorem dX5_place_44 : decode cX5_place 44 = .ok (.new 66, 3) := by decide +kernel
theorem dX5_place_47 : decode cX5_place 47 = .ok (.dup, 1) := by decide +kernel
theorem dX5_place_48 : decode cX5_place 48 = .ok (.ldc 105, 2) := by decide +kernel
theorem dX5_place_50 : decode cX5_place 50 = .ok (.invokespecial 70, 3) := by decide +kernel
theorem dX5_place_53 : decode cX5_place 53 = .ok (.athrow, 1) := by decide +kernel
theorem dX5_place_54 : decode cX5_place 54 = .ok (.aload_n 3, 1) := by decide +kernel
theorem dX5_place_55 : decode cX5_place 55 = .ok (.getfield 107, 3) := by decide +kernel
theorem dX5_place_58 : decode cX5_place 58 = .ok (.istore 4, 2) := by decide +kernel
theorem dX5_place_60 : decode cX5_place 60 = .ok (.aload_n 3, 1) := by decide +kernel
theorem dX5_place_61 : decode cX5_place 61 = .ok (.iload_n 2, 1) := by decide +kernel
theorem dX5_place_62 : decode cX5_place 62 = .ok (.putfield 107, 3) := by decide +kernel
theorem dX5_place_65 : decode cX5_place 65 = .ok (.iload 4, 2) := by decide +kernel
theorem dX5_place_67 : decode cX5_place 67 = .ok (.ireturn, 1) := by decide +kernel
theorem dX5_ask_0 : decode cX5_ask 0 = .ok (.iload_n 1, 1) := by decide +kernel
theorem dX5_ask_1 : decode cX5_ask 1 = .ok (.invokestatic 98, 3) := by decide +kernel
theorem dX5_ask_4 : decode cX5_ask 4 = .ok (.ifCond .eq 10, 3) := by decide +kernel
theorem dX5_ask_7 : decode cX5_ask 7 = .ok (.iload_n 2, 1) := by decide +kernel
theorem dX5_ask_8 : decode cX5_ask 8 = .ok (.invokestatic 98, 3) := by decide +kernel
theorem dX5_ask_11 : decode cX5_ask 11 = .ok (.ifCond .ne 13, 3) := by decide +kernel
theorem dX5_ask_14 : decode cX5_ask 14 = .ok (.new 50, 3) := by decide +kernel
theorem dX5_ask_17 : decode cX5_ask 17 = .ok (.dup, 1) := by decide +kernel
theorem dX5_ask_18 : decode cX5_ask 18 = .ok (.ldc 52, 2) := by decide +kernel
theorem dX5_ask_20 : decode cX5_ask 20 = .ok (.invokespecial 54, 3) := by decide +kernel
theorem dX5_ask_23 : decode cX5_ask 23 = .ok (.athrow, 1) := by decide +kernel
theorem dX5_ask_24 : decode cX5_ask 24 = .ok (.iload_n 1, 1) := by decide +kernel
theorem dX5_ask_25 : decode cX5_ask 25 = .ok (.iload_n 2, 1) := by decide +kernel
theorem dX5_ask_26 : decode cX5_ask 26 = .ok (.if_icmp .ne 13, 3) := by decide +kernel
theorem dX5_ask_29 : decode cX5_ask 29 = .ok (.new 57, 3) := by decide +kernel
theorem dX5_ask_32 : decode cX5_ask 32 = .ok (.dup, 1) := by decide +kernel
theorem dX5_ask_33 : decode cX5_ask 33 = .ok (.ldc 110, 2) := by decide +kernel
theorem dX5_ask_35 : decode cX5_ask 35 = .ok (.invokespecial 61, 3) := by decide +kernel
theorem dX5_ask_38 : decode cX5_ask 38 = .ok (.athrow, 1) := by decide +kernel
theorem dX5_ask_39 : decode cX5_ask 39 = .ok (.aload_n 0, 1) := by decide +kernel
theorem dX5_ask_40 : decode cX5_ask 40 = .ok (.getfield 24, 3) := by decide +kernel
theorem dX5_ask_43 : decode cX5_ask 43 = .ok (.invokevirtual 112, 3) := by decide +kernel
theorem dX5_ask_46 : decode cX5_ask 46 = .ok (.bipush 60, 2) := by decide +kernel
theorem dX5_ask_48 : decode cX5_ask 48 = .ok (.if_icmp .lt 13, 3) := by decide +kernel
theorem dX5_ask_51 : decode cX5_ask 51 = .ok (.new 66, 3) := by decide +kernel
theorem dX5_ask_54 : decode cX5_ask 54 = .ok (.dup, 1) := by decide +kernel
theorem dX5_ask_55 : decode cX5_ask 55 = .ok (.ldc 115, 2) := by decide +kernel
theorem dX5_ask_57 : decode cX5_ask 57 = .ok (.invokespecial 70, 3) := by decide +kernel
theorem dX5_ask_60 : decode cX5_ask 60 = .ok (.athrow, 1) := by decide +kernel
theorem dX5_ask_61 : decode cX5_ask 61 = .ok (.aload_n 0, 1) := by decide +kernel
theorem dX5_ask_62 : decode cX5_ask 62 = .ok (.getfield 24, 3) := by decide +kernel
theorem dX5_ask_65 : decode cX5_ask 65 = .ok (.invokevirtual 112, 3) := by decide +kernel
theorem dX5_ask_68 : decode cX5_ask 68 = .ok (.istore_n 3, 1) := by decide +kernel
theorem dX5_ask_69 : decode cX5_ask 69 = .ok (.aload_n 0, 1) := by decide +kernel
theorem dX5_ask_70 : decode cX5_ask 70 = .ok (.getfield 24, 3) := by decide +kernel
theorem dX5_ask_73 : decode cX5_ask 73 = .ok (.new 117, 3) := by decide +kernel
theorem dX5_ask_76 : decode cX5_ask 76 = .ok (.dup, 1) := by decide +kernel
theorem dX5_ask_77 : decode cX5_ask 77 = .ok (.iload_n 3, 1) := by decide +kernel
theorem dX5_ask_78 : decode cX5_ask 78 = .ok (.iload_n 1, 1) := by decide +kernel
theorem dX5_ask_79 : decode cX5_ask 79 = .ok (.iload_n 2, 1) := by decide +kernel
theorem dX5_ask_80 : decode cX5_ask 80 = .ok (.invokespecial 119, 3) := by decide +kernel
theorem dX5_ask_83 : decode cX5_ask 83 = .ok (.invokevirtual 122, 3) := by decide +kernel
theorem dX5_ask_86 : decode cX5_ask 86 = .ok (.pop, 1) := by decide +kernel
theorem dX5_ask_87 : decode cX5_ask 87 = .ok (.iload_n 3, 1) := by decide +kernel
theorem dX5_ask_88 : decode cX5_ask 88 = .ok (.ireturn, 1) := by decide +kernel
theorem dX5_pass_0 : decode cX5_pass 0 = .ok (.iload_n 1, 1) := by decide +kernel
theorem dX5_pass_1 : decode cX5_pass 1 = .ok (.iconst 1, 1) := by decide +kernel
theorem dX5_pass_2 : decode cX5_pass 2 = .ok (.if_icmp .lt 9, 3) := by decide +kernel
theorem dX5_pass_5 : decode cX5_pass 5 = .ok (.iload_n 1, 1) := by decide +kernel
theorem dX5_pass_6 : decode cX5_pass 6 = .ok (.bipush 60, 2) := by decide +kernel
theorem dX5_pass_8 : decode cX5_pass 8 = .ok (.if_icmp .le 13, 3) := by decide +kernel
theorem dX5_pass_11 : decode cX5_pass 11 = .ok (.new 57, 3) := by decide +kernel
theorem dX5_pass_14 : decode cX5_pass 14 = .ok (.dup, 1) := by decide +kernel
theorem dX5_pass_15 : decode cX5_pass 15 = .ok (.ldc 126, 2) := by decide +kernel
theorem dX5_pass_17 : decode cX5_pass 17 = .ok (.invokespecial 61, 3) := by decide +kernel
theorem dX5_pass_20 : decode cX5_pass 20 = .ok (.athrow, 1) := by decide +kernel
theorem dX5_pass_21 : decode cX5_pass 21 = .ok (.aload_n 0, 1) := by decide +kernel
theorem dX5_pass_22 : decode cX5_pass 22 = .ok (.getfield 39, 3) := by decide +kernel
theorem dX5_pass_25 : decode cX5_pass 25 = .ok (.sipush 1000, 3) := by decide +kernel
theorem dX5_pass_28 : decode cX5_pass 28 = .ok (.iload_n 1, 1) := by decide +kernel
theorem dX5_pass_29 : decode cX5_pass 29 = .ok (.isub, 1) := by decide +kernel
theorem dX5_pass_30 : decode cX5_pass 30 = .ok (.if_icmp .le 13, 3) := by decide +kernel
theorem dX5_pass_33 : decode cX5_pass 33 = .ok (.new 66, 3) := by decide +kernel
theorem dX5_pass_36 : decode cX5_pass 36 = .ok (.dup, 1) := by decide +kernel
theorem dX5_pass_37 : decode cX5_pass 37 = .ok (.ldc 128, 2) := by decide +kernel
theorem dX5_pass_39 : decode cX5_pass 39 = .ok (.invokespecial 70, 3) := by decide +kernel
theorem dX5_pass_42 : decode cX5_pass 42 = .ok (.athrow, 1) := by decide +kernel
theorem dX5_pass_43 : decode cX5_pass 43 = .ok (.iconst 0, 1) := by decide +kernel
theorem dX5_pass_44 : decode cX5_pass 44 = .ok (.istore_n 2, 1) := by decide +kernel
theorem dX5_pass_45 : decode cX5_pass 45 = .ok (.iconst 0, 1) := by decide +kernel
theorem dX5_pass_46 : decode cX5_pass 46 = .ok (.istore_n 3, 1) := by decide +kernel
theorem dX5_pass_47 : decode cX5_pass 47 = .ok (.iload_n 3, 1) := by decide +kernel
theorem dX5_pass_48 : decode cX5_pass 48 = .ok (.iload_n 1, 1) := by decide +kernel
theorem dX5_pass_49 : decode cX5_pass 49 = .ok (.if_icmp .ge 20, 3) := by decide +kernel
theorem dX5_pass_52 : decode cX5_pass 52 = .ok (.aload_n 0, 1) := by decide +kernel
theorem dX5_pass_53 : decode cX5_pass 53 = .ok (.invokevirtual 130, 3) := by decide +kernel
theorem dX5_pass_56 : decode cX5_pass 56 = .ok (.iload_n 2, 1) := by decide +kernel
theorem dX5_pass_57 : decode cX5_pass 57 = .ok (.aload_n 0, 1) := by decide +kernel
theorem dX5_pass_58 : decode cX5_pass 58 = .ok (.invokevirtual 133, 3) := by decide +kernel
theorem dX5_pass_61 : decode cX5_pass 61 = .ok (.iadd, 1) := by decide +kernel
theorem dX5_pass_62 : decode cX5_pass 62 = .ok (.istore_n 2, 1) := by decide +kernel
theorem dX5_pass_63 : decode cX5_pass 63 = .ok (.iinc 3 1, 3) := by decide +kernel
theorem dX5_pass_66 : decode cX5_pass 66 = .ok (.goto (-19), 3) := by decide +kernel
theorem dX5_pass_69 : decode cX5_pass 69 = .ok (.aload_n 0, 1) := by decide +kernel
theorem dX5_pass_70 : decode cX5_pass 70 = .ok (.dup, 1) := by decide +kernel
theorem dX5_pass_71 : decode cX5_pass 71 = .ok (.getfield 39, 3) := by decide +kernel
theorem dX5_pass_74 : decode cX5_pass 74 = .ok (.iload_n 1, 1) := by decide +kernel
theorem dX5_pass_75 : decode cX5_pass 75 = .ok (.iadd, 1) := by decide +kernel
theorem dX5_pass_76 : decode cX5_pass 76 = .ok (.putfield 39, 3) := by decide +kernel
theorem dX5_pass_79 : decode cX5_pass 79 = .ok (.iload_n 2, 1) := by decide +kernel
theorem dX5_pass_80 : decode cX5_pass 80 = .ok (.ireturn, 1) := by decide +kernel
theorem dX5_night_0 : decode cX5_night 0 = .ok (.aload_n 0, 1) := by decide +kernel
theorem dX5_night_1 : decode cX5_night 1 = .ok (.invokevirtual 136, 3) := by decide +kernel
theorem dX5_night_4 : decode cX5_night 4 = .ok (.ifCond .ne 13, 3) := by decide +kernel
theorem dX5_night_7 : decode cX5_night 7 = .ok (.new 66, 3) := by decide +kernel
theorem dX5_night_10 : decode cX5_night 10 = .ok (.dup, 1) := by decide +kernel
theorem dX5_night_11 : decode cX5_night 11 = .ok (.ldc 140, 2) := by decide +kernel
theorem dX5_night_13 : decode cX5_night 13 = .ok (.invokespecial 70, 3) := by decide +kernel
theorem dX5_night_16 : decode cX5_night 16 = .ok (.athrow, 1) := by decide +kernel
theorem dX5_night_17 : decode cX5_night 17 = .ok (.aload_n 0, 1) := by decide +kernel
theorem dX5_night_18 : decode cX5_night 18 = .ok (.getfield 35, 3) := by decide +kernel
theorem dX5_night_21 : decode cX5_night 21 = .ok (.sipush 1000, 3) := by decide +kernel
theorem dX5_night_24 : decode cX5_night 24 = .ok (.if_icmp .lt 13, 3) := by decide +kernel
theorem dX5_night_27 : decode cX5_night 27 = .ok (.new 66, 3) := by decide +kernel
theorem dX5_night_30 : decode cX5_night 30 = .ok (.dup, 1) := by decide +kernel
theorem dX5_night_31 : decode cX5_night 31 = .ok (.ldc 142, 2) := by decide +kernel
theorem dX5_night_33 : decode cX5_night 33 = .ok (.invokespecial 70, 3) := by decide +kernel
theorem dX5_night_36 : decode cX5_night 36 = .ok (.athrow, 1) := by decide +kernel
theorem dX5_night_37 : decode cX5_night 37 = .ok (.aload_n 0, 1) := by decide +kernel
theorem dX5_night_38 : decode cX5_night 38 = .ok (.dup, 1) := by decide +kernel
theorem dX5_night_39 : decode cX5_night 39 = .ok (.getfield 35, 3) := by decide +kernel
theorem dX5_night_42 : decode cX5_night 42 = .ok (.iconst 1, 1) := by decide +kernel
theorem dX5_night_43 : decode cX5_night 43 = .ok (.iadd, 1) := by decide +kernel
theorem dX5_night_44 : decode cX5_night 44 = .ok (.putfield 35, 3) := by decide +kernel
theorem dX5_night_47 : decode cX5_night 47 = .ok (.aload_n 0, 1) := by decide +kernel
theorem dX5_night_48 : decode cX5_night 48 = .ok (.iconst 0, 1) := by decide +kernel
theorem dX5_night_49 : decode cX5_night 49 = .ok (.putfield 39, 3) := by decide +kernel
theorem dX5_night_52 : decode cX5_night 52 = .ok (.aload_n 0, 1) := by decide +kernel
theorem dX5_night_53 : decode cX5_night 53 = .ok (.getfield 31, 3) := by decide +kernel
theorem dX5_night_56 : decode cX5_night 56 = .ok (.aload_n 0, 1) := by decide +kernel
theorem dX5_night_57 : decode cX5_night 57 = .ok (.getfield 35, 3) := by decide +kernel
theorem dX5_night_60 : decode cX5_night 60 = .ok (.invokevirtual 144, 3) := by decide +kernel
theorem dX5_night_63 : decode cX5_night 63 = .ok (.ireturn, 1) := by decide +kernel
theorem dX5_complain_0 : decode cX5_complain 0 = .ok (.aload_n 0, 1) := by decide +kernel
theorem dX5_complain_1 : decode cX5_complain 1 = .ok (.iload_n 1, 1) := by decide +kernel
theorem dX5_complain_2 : decode cX5_complain 2 = .ok (.invokevirtual 148, 3) := by decide +kernel
theorem dX5_complain_5 : decode cX5_complain 5 = .ok (.astore_n 3, 1) := by decide +kernel
theorem dX5_complain_6 : decode cX5_complain 6 = .ok (.aload_n 3, 1) := by decide +kernel
theorem dX5_complain_7 : decode cX5_complain 7 = .ok (.ifnonnull 13, 3) := by decide +kernel
theorem dX5_complain_10 : decode cX5_complain 10 = .ok (.new 50, 3) := by decide +kernel
theorem dX5_complain_13 : decode cX5_complain 13 = .ok (.dup, 1) := by decide +kernel
theorem dX5_complain_14 : decode cX5_complain 14 = .ok (.ldc 152, 2) := by decide +kernel
theorem dX5_complain_16 : decode cX5_complain 16 = .ok (.invokespecial 54, 3) := by decide +kernel
theorem dX5_complain_19 : decode cX5_complain 19 = .ok (.athrow, 1) := by decide +kernel
theorem dX5_complain_20 : decode cX5_complain 20 = .ok (.aload_n 3, 1) := by decide +kernel
theorem dX5_complain_21 : decode cX5_complain 21 = .ok (.getfield 154, 3) := by decide +kernel
theorem dX5_complain_24 : decode cX5_complain 24 = .ok (.astore 4, 2) := by decide +kernel
theorem dX5_complain_26 : decode cX5_complain 26 = .ok (.aload_n 3, 1) := by decide +kernel
theorem dX5_complain_27 : decode cX5_complain 27 = .ok (.getfield 158, 3) := by decide +kernel
theorem dX5_complain_30 : decode cX5_complain 30 = .ok (.iconst 3, 1) := by decide +kernel
theorem dX5_complain_31 : decode cX5_complain 31 = .ok (.if_icmp .ne 8, 3) := by decide +kernel
theorem dX5_complain_34 : decode cX5_complain 34 = .ok (.aload 4, 2) := by decide +kernel
theorem dX5_complain_36 : decode cX5_complain 36 = .ok (.ifnonnull 13, 3) := by decide +kernel
theorem dX5_complain_39 : decode cX5_complain 39 = .ok (.new 66, 3) := by decide +kernel
theorem dX5_complain_42 : decode cX5_complain 42 = .ok (.dup, 1) := by decide +kernel
theorem dX5_complain_43 : decode cX5_complain 43 = .ok (.ldc 161, 2) := by decide +kernel
theorem dX5_complain_45 : decode cX5_complain 45 = .ok (.invokespecial 70, 3) := by decide +kernel
theorem dX5_complain_48 : decode cX5_complain 48 = .ok (.athrow, 1) := by decide +kernel
theorem dX5_complain_49 : decode cX5_complain 49 = .ok (.aload_n 3, 1) := by decide +kernel
theorem dX5_complain_50 : decode cX5_complain 50 = .ok (.getfield 163, 3) := by decide +kernel
theorem dX5_complain_53 : decode cX5_complain 53 = .ok (.ifCond .eq 13, 3) := by decide +kernel
theorem dX5_complain_56 : decode cX5_complain 56 = .ok (.new 66, 3) := by decide +kernel
theorem dX5_complain_59 : decode cX5_complain 59 = .ok (.dup, 1) := by decide +kernel
theorem dX5_complain_60 : decode cX5_complain 60 = .ok (.ldc 166, 2) := by decide +kernel
theorem dX5_complain_62 : decode cX5_complain 62 = .ok (.invokespecial 70, 3) := by decide +kernel
theorem dX5_complain_65 : decode cX5_complain 65 = .ok (.athrow, 1) := by decide +kernel
theorem dX5_complain_66 : decode cX5_complain 66 = .ok (.aload_n 3, 1) := by decide +kernel
theorem dX5_complain_67 : decode cX5_complain 67 = .ok (.iconst 1, 1) := by decide +kernel
theorem dX5_complain_68 : decode cX5_complain 68 = .ok (.putfield 163, 3) := by decide +kernel
theorem dX5_complain_71 : decode cX5_complain 71 = .ok (.aload 4, 2) := by decide +kernel
theorem dX5_complain_73 : decode cX5_complain 73 = .ok (.iload_n 2, 1) := by decide +kernel
theorem dX5_complain_74 : decode cX5_complain 74 = .ok (.ifCond .eq 18, 3) := by decide +kernel
theorem dX5_complain_77 : decode cX5_complain 77 = .ok (.bipush 100, 2) := by decide +kernel
theorem dX5_complain_79 : decode cX5_complain 79 = .ok (.aload 4, 2) := by decide +kernel
theorem dX5_complain_81 : decode cX5_complain 81 = .ok (.getfield 168, 3) := by decide +kernel
theorem dX5_complain_84 : decode cX5_complain 84 = .ok (.iconst 5, 1) := by decide +kernel
theorem dX5_complain_85 : decode cX5_complain 85 = .ok (.iadd, 1) := by decide +kernel
theorem dX5_complain_86 : decode cX5_complain 86 = .ok (.invokestatic 171, 3) := by decide +kernel
theorem dX5_complain_89 : decode cX5_complain 89 = .ok (.goto 15, 3) := by decide +kernel
theorem dX5_complain_92 : decode cX5_complain 92 = .ok (.iconst 0, 1) := by decide +kernel
theorem dX5_complain_93 : decode cX5_complain 93 = .ok (.aload 4, 2) := by decide +kernel
theorem dX5_complain_95 : decode cX5_complain 95 = .ok (.getfield 168, 3) := by decide +kernel
theorem dX5_complain_98 : decode cX5_complain 98 = .ok (.bipush 10, 2) := by decide +kernel
theorem dX5_complain_100 : decode cX5_complain 100 = .ok (.isub, 1) := by decide +kernel
theorem dX5_complain_101 : decode cX5_complain 101 = .ok (.invokestatic 177, 3) := by decide +kernel
theorem dX5_complain_104 : decode cX5_complain 104 = .ok (.putfield 168, 3) := by decide +kernel
theorem dX5_complain_107 : decode cX5_complain 107 = .ok (.aload 4, 2) := by decide +kernel
theorem dX5_complain_109 : decode cX5_complain 109 = .ok (.getfield 168, 3) := by decide +kernel
theorem dX5_complain_112 : decode cX5_complain 112 = .ok (.ireturn, 1) := by decide +kernel
theorem dX5_day_0 : decode cX5_day 0 = .ok (.aload_n 0, 1) := by decide +kernel
theorem dX5_day_1 : decode cX5_day 1 = .ok (.getfield 35, 3) := by decide +kernel
theorem dX5_day_4 : decode cX5_day 4 = .ok (.ireturn, 1) := by decide +kernel
theorem dX5_minute_0 : decode cX5_minute 0 = .ok (.aload_n 0, 1) := by decide +kernel
theorem dX5_minute_1 : decode cX5_minute 1 = .ok (.getfield 39, 3) := by decide +kernel
theorem dX5_minute_4 : decode cX5_minute 4 = .ok (.ireturn, 1) := by decide +kernel
theorem dX5_purse_0 : decode cX5_purse 0 = .ok (.aload_n 0, 1) := by decide +kernel
theorem dX5_purse_1 : decode cX5_purse 1 = .ok (.iload_n 1, 1) := by decide +kernel
theorem dX5_purse_2 : decode cX5_purse 2 = .ok (.invokevirtual 46, 3) := by decide +kernel
theorem dX5_purse_5 : decode cX5_purse 5 = .ok (.astore_n 2, 1) := by decide +kernel
theorem dX5_purse_6 : decode cX5_purse 6 = .ok (.aload_n 2, 1) := by decide +kernel
theorem dX5_purse_7 : decode cX5_purse 7 = .ok (.ifnonnull 13, 3) := by decide +kernel
theorem dX5_purse_10 : decode cX5_purse 10 = .ok (.new 50, 3) := by decide +kernel
theorem dX5_purse_13 : decode cX5_purse 13 = .ok (.dup, 1) := by decide +kernel
theorem dX5_purse_14 : decode cX5_purse 14 = .ok (.ldc 52, 2) := by decide +kernel
theorem dX5_purse_16 : decode cX5_purse 16 = .ok (.invokespecial 54, 3) := by decide +kernel
theorem dX5_purse_19 : decode cX5_purse 19 = .ok (.athrow, 1) := by decide +kernel
theorem dX5_purse_20 : decode cX5_purse 20 = .ok (.aload_n 2, 1) := by decide +kernel
theorem dX5_purse_21 : decode cX5_purse 21 = .ok (.getfield 62, 3) := by decide +kernel
theorem dX5_purse_24 : decode cX5_purse 24 = .ok (.ireturn, 1) := by decide +kernel
theorem dX5_walks_0 : decode cX5_walks 0 = .ok (.aload_n 0, 1) := by decide +kernel
theorem dX5_walks_1 : decode cX5_walks 1 = .ok (.getfield 24, 3) := by decide +kernel
theorem dX5_walks_4 : decode cX5_walks 4 = .ok (.invokevirtual 112, 3) := by decide +kernel
theorem dX5_walks_7 : decode cX5_walks 7 = .ok (.ireturn, 1) := by decide +kernel
theorem dX5_state_0 : decode cX5_state 0 = .ok (.aload_n 0, 1) := by decide +kernel
theorem dX5_state_1 : decode cX5_state 1 = .ok (.iload_n 1, 1) := by decide +kernel
theorem dX5_state_2 : decode cX5_state 2 = .ok (.invokevirtual 148, 3) := by decide +kernel
theorem dX5_state_5 : decode cX5_state 5 = .ok (.astore_n 2, 1) := by decide +kernel
theorem dX5_state_6 : decode cX5_state 6 = .ok (.aload_n 2, 1) := by decide +kernel
theorem dX5_state_7 : decode cX5_state 7 = .ok (.ifnonnull 13, 3) := by decide +kernel
theorem dX5_state_10 : decode cX5_state 10 = .ok (.new 50, 3) := by decide +kernel
theorem dX5_state_13 : decode cX5_state 13 = .ok (.dup, 1) := by decide +kernel
theorem dX5_state_14 : decode cX5_state 14 = .ok (.ldc 152, 2) := by decide +kernel
theorem dX5_state_16 : decode cX5_state 16 = .ok (.invokespecial 54, 3) := by decide +kernel
theorem dX5_state_19 : decode cX5_state 19 = .ok (.athrow, 1) := by decide +kernel
theorem dX5_state_20 : decode cX5_state 20 = .ok (.aload_n 2, 1) := by decide +kernel
theorem dX5_state_21 : decode cX5_state 21 = .ok (.getfield 158, 3) := by decide +kernel
theorem dX5_state_24 : decode cX5_state 24 = .ok (.ireturn, 1) := by decide +kernel
theorem dX5_escortOf_0 : decode cX5_escortOf 0 = .ok (.aload_n 0, 1) := by decide +kernel
theorem dX5_escortOf_1 : decode cX5_escortOf 1 = .ok (.iload_n 1, 1) := by decide +kernel
theorem dX5_escortOf_2 : decode cX5_escortOf 2 = .ok (.invokevirtual 148, 3) := by decide +kernel
theorem dX5_escortOf_5 : decode cX5_escortOf 5 = .ok (.astore_n 2, 1) := by decide +kernel
theorem dX5_escortOf_6 : decode cX5_escortOf 6 = .ok (.aload_n 2, 1) := by decide +kernel
theorem dX5_escortOf_7 : decode cX5_escortOf 7 = .ok (.ifnonnull 13, 3) := by decide +kernel
theorem dX5_escortOf_10 : decode cX5_escortOf 10 = .ok (.new 50, 3) := by decide +kernel
theorem dX5_escortOf_13 : decode cX5_escortOf 13 = .ok (.dup, 1) := by decide +kernel
theorem dX5_escortOf_14 : decode cX5_escortOf 14 = .ok (.ldc 152, 2) := by decide +kernel
theorem dX5_escortOf_16 : decode cX5_escortOf 16 = .ok (.invokespecial 54, 3) := by decide +kernel
theorem dX5_escortOf_19 : decode cX5_escortOf 19 = .ok (.athrow, 1) := by decide +kernel
theorem dX5_escortOf_20 : decode cX5_escortOf 20 = .ok (.aload_n 2, 1) := by decide +kernel
theorem dX5_escortOf_21 : decode cX5_escortOf 21 = .ok (.getfield 154, 3) := by decide +kernel
theorem dX5_escortOf_24 : decode cX5_escortOf 24 = .ok (.astore_n 3, 1) := by decide +kernel
theorem dX5_escortOf_25 : decode cX5_escortOf 25 = .ok (.aload_n 3, 1) := by decide +kernel
theorem dX5_escortOf_26 : decode cX5_escortOf 26 = .ok (.ifnonnull 7, 3) := by decide +kernel
theorem dX5_escortOf_29 : decode cX5_escortOf 29 = .ok (.iconst (-1), 1) := by decide +kernel
theorem dX5_escortOf_30 : decode cX5_escortOf 30 = .ok (.goto 7, 3) := by decide +kernel
theorem dX5_escortOf_33 : decode cX5_escortOf 33 = .ok (.aload_n 3, 1) := by decide +kernel
theorem dX5_escortOf_34 : decode cX5_escortOf 34 = .ok (.getfield 180, 3) := by decide +kernel
theorem dX5_escortOf_37 : decode cX5_escortOf 37 = .ok (.ireturn, 1) := by decide +kernel
theorem dX5_dark_0 : decode cX5_dark 0 = .ok (.aload_n 0, 1) := by decide +kernel
theorem dX5_dark_1 : decode cX5_dark 1 = .ok (.iload_n 1, 1) := by decide +kernel
theorem dX5_dark_2 : decode cX5_dark 2 = .ok (.invokevirtual 148, 3) := by decide +kernel
theorem dX5_dark_5 : decode cX5_dark 5 = .ok (.astore_n 2, 1) := by decide +kernel
theorem dX5_dark_6 : decode cX5_dark 6 = .ok (.aload_n 2, 1) := by decide +kernel
theorem dX5_dark_7 : decode cX5_dark 7 = .ok (.ifnonnull 13, 3) := by decide +kernel
theorem dX5_dark_10 : decode cX5_dark 10 = .ok (.new 50, 3) := by decide +kernel
theorem dX5_dark_13 : decode cX5_dark 13 = .ok (.dup, 1) := by decide +kernel
theorem dX5_dark_14 : decode cX5_dark 14 = .ok (.ldc 152, 2) := by decide +kernel
theorem dX5_dark_16 : decode cX5_dark 16 = .ok (.invokespecial 54, 3) := by decide +kernel
theorem dX5_dark_19 : decode cX5_dark 19 = .ok (.athrow, 1) := by decide +kernel
theorem dX5_dark_20 : decode cX5_dark 20 = .ok (.aload_n 2, 1) := by decide +kernel
theorem dX5_dark_21 : decode cX5_dark 21 = .ok (.getfield 183, 3) := by decide +kernel
theorem dX5_dark_24 : decode cX5_dark 24 = .ok (.ireturn, 1) := by decide +kernel
theorem dX5_streetOf_0 : decode cX5_streetOf 0 = .ok (.aload_n 0, 1) := by decide +kernel
theorem dX5_streetOf_1 : decode cX5_streetOf 1 = .ok (.iload_n 1, 1) := by decide +kernel
theorem dX5_streetOf_2 : decode cX5_streetOf 2 = .ok (.invokevirtual 92, 3) := by decide +kernel
theorem dX5_streetOf_5 : decode cX5_streetOf 5 = .ok (.astore_n 2, 1) := by decide +kernel
theorem dX5_streetOf_6 : decode cX5_streetOf 6 = .ok (.aload_n 2, 1) := by decide +kernel
theorem dX5_streetOf_7 : decode cX5_streetOf 7 = .ok (.ifnonnull 13, 3) := by decide +kernel
theorem dX5_streetOf_10 : decode cX5_streetOf 10 = .ok (.new 50, 3) := by decide +kernel
theorem dX5_streetOf_13 : decode cX5_streetOf 13 = .ok (.dup, 1) := by decide +kernel
theorem dX5_streetOf_14 : decode cX5_streetOf 14 = .ok (.ldc 96, 2) := by decide +kernel
theorem dX5_streetOf_16 : decode cX5_streetOf 16 = .ok (.invokespecial 54, 3) := by decide +kernel
theorem dX5_streetOf_19 : decode cX5_streetOf 19 = .ok (.athrow, 1) := by decide +kernel
theorem dX5_streetOf_20 : decode cX5_streetOf 20 = .ok (.aload_n 2, 1) := by decide +kernel
theorem dX5_streetOf_21 : decode cX5_streetOf 21 = .ok (.getfield 107, 3) := by decide +kernel
theorem dX5_streetOf_24 : decode cX5_streetOf 24 = .ok (.ireturn, 1) := by decide +kernel
theorem dX5_rank_0 : decode cX5_rank 0 = .ok (.aload_n 0, 1) := by decide +kernel
theorem dX5_rank_1 : decode cX5_rank 1 = .ok (.iload_n 1, 1) := by decide +kernel
theorem dX5_rank_2 : decode cX5_rank 2 = .ok (.invokevirtual 92, 3) := by decide +kernel
theorem dX5_rank_5 : decode cX5_rank 5 = .ok (.astore_n 2, 1) := by decide +kernel
theorem dX5_rank_6 : decode cX5_rank 6 = .ok (.aload_n 2, 1) := by decide +kernel
theorem dX5_rank_7 : decode cX5_rank 7 = .ok (.ifnonnull 13, 3) := by decide +kernel
theorem dX5_rank_10 : decode cX5_rank 10 = .ok (.new 50, 3) := by decide +kernel
theorem dX5_rank_13 : decode cX5_rank 13 = .ok (.dup, 1) := by decide +kernel
theorem dX5_rank_14 : decode cX5_rank 14 = .ok (.ldc 96, 2) := by decide +kernel
theorem dX5_rank_16 : decode cX5_rank 16 = .ok (.invokespecial 54, 3) := by decide +kernel
theorem dX5_rank_19 : decode cX5_rank 19 = .ok (.athrow, 1) := by decide +kernel
theorem dX5_rank_20 : decode cX5_rank 20 = .ok (.aload_n 2, 1) := by decide +kernel
theorem dX5_rank_21 : decode cX5_rank 21 = .ok (.getfield 168, 3) := by decide +kernel
theorem dX5_rank_24 : decode cX5_rank 24 = .ok (.ireturn, 1) := by decide +kernel
theorem dX5_way_0 : decode cX5_way 0 = .ok (.iload_n 1, 1) := by decide +kernel
theorem dX5_way_1 : decode cX5_way 1 = .ok (.invokestatic 98, 3) := by decide +kernel
theorem dX5_way_4 : decode cX5_way 4 = .ok (.ifCond .eq 10, 3) := by decide +kernel
theorem dX5_way_7 : decode cX5_way 7 = .ok (.iload_n 2, 1) := by decide +kernel
theorem dX5_way_8 : decode cX5_way 8 = .ok (.invokestatic 98, 3) := by decide +kernel
theorem dX5_way_11 : decode cX5_way 11 = .ok (.ifCond .ne 13, 3) := by decide +kernel
theorem dX5_way_14 : decode cX5_way 14 = .ok (.new 50, 3) := by decide +kernel
theorem dX5_way_17 : decode cX5_way 17 = .ok (.dup, 1) := by decide +kernel
theorem dX5_way_18 : decode cX5_way 18 = .ok (.ldc 52, 2) := by decide +kernel
theorem dX5_way_20 : decode cX5_way 20 = .ok (.invokespecial 54, 3) := by decide +kernel
theorem dX5_way_23 : decode cX5_way 23 = .ok (.athrow, 1) := by decide +kernel
theorem dX5_way_24 : decode cX5_way 24 = .ok (.iload_n 1, 1) := by decide +kernel
theorem dX5_way_25 : decode cX5_way 25 = .ok (.iload_n 2, 1) := by decide +kernel
theorem dX5_way_26 : decode cX5_way 26 = .ok (.invokestatic 186, 3) := by decide +kernel
theorem dX5_way_29 : decode cX5_way 29 = .ok (.ireturn, 1) := by decide +kernel
theorem dX5_pictures_0 : decode cX5_pictures 0 = .ok (.aload_n 0, 1) := by decide +kernel
theorem dX5_pictures_1 : decode cX5_pictures 1 = .ok (.getfield 31, 3) := by decide +kernel
theorem dX5_pictures_4 : decode cX5_pictures 4 = .ok (.invokevirtual 189, 3) := by decide +kernel
theorem dX5_pictures_7 : decode cX5_pictures 7 = .ok (.ireturn, 1) := by decide +kernel
theorem dX5_shows_0 : decode cX5_shows 0 = .ok (.iload_n 1, 1) := by decide +kernel
theorem dX5_shows_1 : decode cX5_shows 1 = .ok (.invokestatic 98, 3) := by decide +kernel
theorem dX5_shows_4 : decode cX5_shows 4 = .ok (.ifCond .ne 13, 3) := by decide +kernel
theorem dX5_shows_7 : decode cX5_shows 7 = .ok (.new 50, 3) := by decide +kernel
theorem dX5_shows_10 : decode cX5_shows 10 = .ok (.dup, 1) := by decide +kernel
theorem dX5_shows_11 : decode cX5_shows 11 = .ok (.ldc 52, 2) := by decide +kernel
theorem dX5_shows_13 : decode cX5_shows 13 = .ok (.invokespecial 54, 3) := by decide +kernel
theorem dX5_shows_16 : decode cX5_shows 16 = .ok (.athrow, 1) := by decide +kernel
theorem dX5_shows_17 : decode cX5_shows 17 = .ok (.aload_n 0, 1) := by decide +kernel
theorem dX5_shows_18 : decode cX5_shows 18 = .ok (.iload_n 2, 1) := by decide +kernel
theorem dX5_shows_19 : decode cX5_shows 19 = .ok (.invokevirtual 148, 3) := by decide +kernel
theorem dX5_shows_22 : decode cX5_shows 22 = .ok (.ifnonnull 13, 3) := by decide +kernel
theorem dX5_shows_25 : decode cX5_shows 25 = .ok (.new 50, 3) := by decide +kernel
theorem dX5_shows_28 : decode cX5_shows 28 = .ok (.dup, 1) := by decide +kernel
theorem dX5_shows_29 : decode cX5_shows 29 = .ok (.ldc 152, 2) := by decide +kernel
theorem dX5_shows_31 : decode cX5_shows 31 = .ok (.invokespecial 54, 3) := by decide +kernel
theorem dX5_shows_34 : decode cX5_shows 34 = .ok (.athrow, 1) := by decide +kernel
theorem dX5_shows_35 : decode cX5_shows 35 = .ok (.aload_n 0, 1) := by decide +kernel
theorem dX5_shows_36 : decode cX5_shows 36 = .ok (.getfield 31, 3) := by decide +kernel
theorem dX5_shows_39 : decode cX5_shows 39 = .ok (.iload_n 1, 1) := by decide +kernel
theorem dX5_shows_40 : decode cX5_shows 40 = .ok (.iload_n 2, 1) := by decide +kernel
theorem dX5_shows_41 : decode cX5_shows 41 = .ok (.iload_n 3, 1) := by decide +kernel
theorem dX5_shows_42 : decode cX5_shows 42 = .ok (.invokevirtual 192, 3) := by decide +kernel
theorem dX5_shows_45 : decode cX5_shows 45 = .ok (.ireturn, 1) := by decide +kernel
theorem dX5_showsByPapers_0 : decode cX5_showsByPapers 0 = .ok (.iload_n 1, 1) := by decide +kernel
theorem dX5_showsByPapers_1 : decode cX5_showsByPapers 1 = .ok (.invokestatic 98, 3) := by decide +kernel
theorem dX5_showsByPapers_4 : decode cX5_showsByPapers 4 = .ok (.ifCond .ne 13, 3) := by decide +kernel
theorem dX5_showsByPapers_7 : decode cX5_showsByPapers 7 = .ok (.new 50, 3) := by decide +kernel
theorem dX5_showsByPapers_10 : decode cX5_showsByPapers 10 = .ok (.dup, 1) := by decide +kernel
theorem dX5_showsByPapers_11 : decode cX5_showsByPapers 11 = .ok (.ldc 52, 2) := by decide +kernel
theorem dX5_showsByPapers_13 : decode cX5_showsByPapers 13 = .ok (.invokespecial 54, 3) := by decide +kernel
theorem dX5_showsByPapers_16 : decode cX5_showsByPapers 16 = .ok (.athrow, 1) := by decide +kernel
theorem dX5_showsByPapers_17 : decode cX5_showsByPapers 17 = .ok (.aload_n 0, 1) := by decide +kernel
theorem dX5_showsByPapers_18 : decode cX5_showsByPapers 18 = .ok (.iload_n 2, 1) := by decide +kernel
theorem dX5_showsByPapers_19 : decode cX5_showsByPapers 19 = .ok (.invokevirtual 148, 3) := by decide +kernel
theorem dX5_showsByPapers_22 : decode cX5_showsByPapers 22 = .ok (.ifnonnull 13, 3) := by decide +kernel
theorem dX5_showsByPapers_25 : decode cX5_showsByPapers 25 = .ok (.new 50, 3) := by decide +kernel
theorem dX5_showsByPapers_28 : decode cX5_showsByPapers 28 = .ok (.dup, 1) := by decide +kernel
theorem dX5_showsByPapers_29 : decode cX5_showsByPapers 29 = .ok (.ldc 152, 2) := by decide +kernel
theorem dX5_showsByPapers_31 : decode cX5_showsByPapers 31 = .ok (.invokespecial 54, 3) := by decide +kernel
theorem dX5_showsByPapers_34 : decode cX5_showsByPapers 34 = .ok (.athrow, 1) := by decide +kernel
theorem dX5_showsByPapers_35 : decode cX5_showsByPapers 35 = .ok (.aload_n 0, 1) := by decide +kernel
theorem dX5_showsByPapers_36 : decode cX5_showsByPapers 36 = .ok (.getfield 31, 3) := by decide +kernel
theorem dX5_showsByPapers_39 : decode cX5_showsByPapers 39 = .ok (.iload_n 1, 1) := by decide +kernel
theorem dX5_showsByPapers_40 : decode cX5_showsByPapers 40 = .ok (.iload_n 2, 1) := by decide +kernel
theorem dX5_showsByPapers_41 : decode cX5_showsByPapers 41 = .ok (.iload_n 3, 1) := by decide +kernel
theorem dX5_showsByPapers_42 : decode cX5_showsByPapers 42 = .ok (.aload_n 0, 1) := by decide +kernel
theorem dX5_showsByPapers_43 : decode cX5_showsByPapers 43 = .ok (.getfield 35, 3) := by decide +kernel
theorem dX5_showsByPapers_46 : decode cX5_showsByPapers 46 = .ok (.invokevirtual 196, 3) := by decide +kernel
theorem dX5_showsByPapers_49 : decode cX5_showsByPapers 49 = .ok (.ireturn, 1) := by decide +kernel
theorem dX5_taken_0 : decode cX5_taken 0 = .ok (.aload_n 0, 1) := by decide +kernel
theorem dX5_taken_1 : decode cX5_taken 1 = .ok (.getfield 31, 3) := by decide +kernel
theorem dX5_taken_4 : decode cX5_taken 4 = .ok (.invokevirtual 200, 3) := by decide +kernel
theorem dX5_taken_7 : decode cX5_taken 7 = .ok (.ireturn, 1) := by decide +kernel
theorem dX5_isStreet_0 : decode cX5_isStreet 0 = .ok (.iload_n 0, 1) := by decide +kernel
theorem dX5_isStreet_1 : decode cX5_isStreet 1 = .ok (.ifCond .lt 13, 3) := by decide +kernel
theorem dX5_isStreet_4 : decode cX5_isStreet 4 = .ok (.iload_n 0, 1) := by decide +kernel
theorem dX5_isStreet_5 : decode cX5_isStreet 5 = .ok (.bipush 8, 2) := by decide +kernel
theorem dX5_isStreet_7 : decode cX5_isStreet 7 = .ok (.if_icmp .ge 7, 3) := by decide +kernel
theorem dX5_isStreet_10 : decode cX5_isStreet 10 = .ok (.iconst 1, 1) := by decide +kernel
theorem dX5_isStreet_11 : decode cX5_isStreet 11 = .ok (.goto 4, 3) := by decide +kernel
theorem dX5_isStreet_14 : decode cX5_isStreet 14 = .ok (.iconst 0, 1) := by decide +kernel
theorem dX5_isStreet_15 : decode cX5_isStreet 15 = .ok (.ireturn, 1) := by decide +kernel
theorem dX5_findStreet_0 : decode cX5_findStreet 0 = .ok (.iload_n 1, 1) := by decide +kernel
theorem dX5_findStreet_1 : decode cX5_findStreet 1 = .ok (.ifCond .lt 12, 3) := by decide +kernel
theorem dX5_findStreet_4 : decode cX5_findStreet 4 = .ok (.iload_n 1, 1) := by decide +kernel
theorem dX5_findStreet_5 : decode cX5_findStreet 5 = .ok (.aload_n 0, 1) := by decide +kernel
theorem dX5_findStreet_6 : decode cX5_findStreet 6 = .ok (.getfield 11, 3) := by decide +kernel
theorem dX5_findStreet_9 : decode cX5_findStreet 9 = .ok (.arraylength, 1) := by decide +kernel
theorem dX5_findStreet_10 : decode cX5_findStreet 10 = .ok (.if_icmp .lt 7, 3) := by decide +kernel
theorem dX5_findStreet_13 : decode cX5_findStreet 13 = .ok (.aconst_null, 1) := by decide +kernel
theorem dX5_findStreet_14 : decode cX5_findStreet 14 = .ok (.goto 9, 3) := by decide +kernel
theorem dX5_findStreet_17 : decode cX5_findStreet 17 = .ok (.aload_n 0, 1) := by decide +kernel
theorem dX5_findStreet_18 : decode cX5_findStreet 18 = .ok (.getfield 11, 3) := by decide +kernel
theorem dX5_findStreet_21 : decode cX5_findStreet 21 = .ok (.iload_n 1, 1) := by decide +kernel
theorem dX5_findStreet_22 : decode cX5_findStreet 22 = .ok (.aaload, 1) := by decide +kernel
theorem dX5_findStreet_23 : decode cX5_findStreet 23 = .ok (.areturn, 1) := by decide +kernel
theorem dX5_findEscort_0 : decode cX5_findEscort 0 = .ok (.iload_n 1, 1) := by decide +kernel
theorem dX5_findEscort_1 : decode cX5_findEscort 1 = .ok (.ifCond .lt 12, 3) := by decide +kernel
theorem dX5_findEscort_4 : decode cX5_findEscort 4 = .ok (.iload_n 1, 1) := by decide +kernel
theorem dX5_findEscort_5 : decode cX5_findEscort 5 = .ok (.aload_n 0, 1) := by decide +kernel
theorem dX5_findEscort_6 : decode cX5_findEscort 6 = .ok (.getfield 17, 3) := by decide +kernel
theorem dX5_findEscort_9 : decode cX5_findEscort 9 = .ok (.arraylength, 1) := by decide +kernel
theorem dX5_findEscort_10 : decode cX5_findEscort 10 = .ok (.if_icmp .lt 7, 3) := by decide +kernel
theorem dX5_findEscort_13 : decode cX5_findEscort 13 = .ok (.aconst_null, 1) := by decide +kernel
theorem dX5_findEscort_14 : decode cX5_findEscort 14 = .ok (.goto 9, 3) := by decide +kernel
theorem dX5_findEscort_17 : decode cX5_findEscort 17 = .ok (.aload_n 0, 1) := by decide +kernel
theorem dX5_findEscort_18 : decode cX5_findEscort 18 = .ok (.getfield 17, 3) := by decide +kernel
theorem dX5_findEscort_21 : decode cX5_findEscort 21 = .ok (.iload_n 1, 1) := by decide +kernel
theorem dX5_findEscort_22 : decode cX5_findEscort 22 = .ok (.aaload, 1) := by decide +kernel
theorem dX5_findEscort_23 : decode cX5_findEscort 23 = .ok (.areturn, 1) := by decide +kernel
theorem dX5_findWalk_0 : decode cX5_findWalk 0 = .ok (.iload_n 1, 1) := by decide +kernel
theorem dX5_findWalk_1 : decode cX5_findWalk 1 = .ok (.ifCond .lt 14, 3) := by decide +kernel
theorem dX5_findWalk_4 : decode cX5_findWalk 4 = .ok (.iload_n 1, 1) := by decide +kernel
theorem dX5_findWalk_5 : decode cX5_findWalk 5 = .ok (.aload_n 0, 1) := by decide +kernel
theorem dX5_findWalk_6 : decode cX5_findWalk 6 = .ok (.getfield 24, 3) := by decide +kernel
theorem dX5_findWalk_9 : decode cX5_findWalk 9 = .ok (.invokevirtual 112, 3) := by decide +kernel
theorem dX5_findWalk_12 : decode cX5_findWalk 12 = .ok (.if_icmp .lt 7, 3) := by decide +kernel
theorem dX5_findWalk_15 : decode cX5_findWalk 15 = .ok (.aconst_null, 1) := by decide +kernel
theorem dX5_findWalk_16 : decode cX5_findWalk 16 = .ok (.goto 14, 3) := by decide +kernel
theorem dX5_findWalk_19 : decode cX5_findWalk 19 = .ok (.aload_n 0, 1) := by decide +kernel
theorem dX5_findWalk_20 : decode cX5_findWalk 20 = .ok (.getfield 24, 3) := by decide +kernel
theorem dX5_findWalk_23 : decode cX5_findWalk 23 = .ok (.iload_n 1, 1) := by decide +kernel
theorem dX5_findWalk_24 : decode cX5_findWalk 24 = .ok (.invokevirtual 203, 3) := by decide +kernel
theorem dX5_findWalk_27 : decode cX5_findWalk 27 = .ok (.checkcast 117, 3) := by decide +kernel
theorem dX5_findWalk_30 : decode cX5_findWalk 30 = .ok (.areturn, 1) := by decide +kernel
theorem dX5_stepsUp_0 : decode cX5_stepsUp 0 = .ok (.iload_n 1, 1) := by decide +kernel
theorem dX5_stepsUp_1 : decode cX5_stepsUp 1 = .ok (.iload_n 0, 1) := by decide +kernel
theorem dX5_stepsUp_2 : decode cX5_stepsUp 2 = .ok (.isub, 1) := by decide +kernel
theorem dX5_stepsUp_3 : decode cX5_stepsUp 3 = .ok (.bipush 8, 2) := by decide +kernel
theorem dX5_stepsUp_5 : decode cX5_stepsUp 5 = .ok (.invokestatic 207, 3) := by decide +kernel
theorem dX5_stepsUp_8 : decode cX5_stepsUp 8 = .ok (.ireturn, 1) := by decide +kernel
theorem dX5_distance_0 : decode cX5_distance 0 = .ok (.iload_n 0, 1) := by decide +kernel
theorem dX5_distance_1 : decode cX5_distance 1 = .ok (.iload_n 1, 1) := by decide +kernel
theorem dX5_distance_2 : decode cX5_distance 2 = .ok (.invokestatic 210, 3) := by decide +kernel
theorem dX5_distance_5 : decode cX5_distance 5 = .ok (.istore_n 2, 1) := by decide +kernel
theorem dX5_distance_6 : decode cX5_distance 6 = .ok (.iload_n 2, 1) := by decide +kernel
theorem dX5_distance_7 : decode cX5_distance 7 = .ok (.bipush 8, 2) := by decide +kernel
theorem dX5_distance_9 : decode cX5_distance 9 = .ok (.iload_n 2, 1) := by decide +kernel
theorem dX5_distance_10 : decode cX5_distance 10 = .ok (.isub, 1) := by decide +kernel
theorem dX5_distance_11 : decode cX5_distance 11 = .ok (.invokestatic 171, 3) := by decide +kernel
theorem dX5_distance_14 : decode cX5_distance 14 = .ok (.ireturn, 1) := by decide +kernel
theorem dX5_oneStepOn_0 : decode cX5_oneStepOn 0 = .ok (.iload_n 0, 1) := by decide +kernel
theorem dX5_oneStepOn_1 : decode cX5_oneStepOn 1 = .ok (.iload_n 1, 1) := by decide +kernel
theorem dX5_oneStepOn_2 : decode cX5_oneStepOn 2 = .ok (.invokestatic 210, 3) := by decide +kernel
theorem dX5_oneStepOn_5 : decode cX5_oneStepOn 5 = .ok (.istore_n 2, 1) := by decide +kernel
theorem dX5_oneStepOn_6 : decode cX5_oneStepOn 6 = .ok (.iload_n 2, 1) := by decide +kernel
theorem dX5_oneStepOn_7 : decode cX5_oneStepOn 7 = .ok (.ifCond .ne 5, 3) := by decide +kernel
theorem dX5_oneStepOn_10 : decode cX5_oneStepOn 10 = .ok (.iload_n 0, 1) := by decide +kernel
theorem dX5_oneStepOn_11 : decode cX5_oneStepOn 11 = .ok (.ireturn, 1) := by decide +kernel
theorem dX5_oneStepOn_12 : decode cX5_oneStepOn 12 = .ok (.iload_n 2, 1) := by decide +kernel
theorem dX5_oneStepOn_13 : decode cX5_oneStepOn 13 = .ok (.bipush 8, 2) := by decide +kernel
theorem dX5_oneStepOn_15 : decode cX5_oneStepOn 15 = .ok (.iload_n 2, 1) := by decide +kernel
theorem dX5_oneStepOn_16 : decode cX5_oneStepOn 16 = .ok (.isub, 1) := by decide +kernel
theorem dX5_oneStepOn_17 : decode cX5_oneStepOn 17 = .ok (.if_icmp .gt 9, 3) := by decide +kernel
theorem dX5_oneStepOn_20 : decode cX5_oneStepOn 20 = .ok (.iload_n 0, 1) := by decide +kernel
theorem dX5_oneStepOn_21 : decode cX5_oneStepOn 21 = .ok (.iconst 1, 1) := by decide +kernel
theorem dX5_oneStepOn_22 : decode cX5_oneStepOn 22 = .ok (.iadd, 1) := by decide +kernel
theorem dX5_oneStepOn_23 : decode cX5_oneStepOn 23 = .ok (.goto 6, 3) := by decide +kernel
theorem dX5_oneStepOn_26 : decode cX5_oneStepOn 26 = .ok (.iload_n 0, 1) := by decide +kernel
theorem dX5_oneStepOn_27 : decode cX5_oneStepOn 27 = .ok (.iconst 1, 1) := by decide +kernel
theorem dX5_oneStepOn_28 : decode cX5_oneStepOn 28 = .ok (.isub, 1) := by decide +kernel
theorem dX5_oneStepOn_29 : decode cX5_oneStepOn 29 = .ok (.bipush 8, 2) := by decide +kernel
theorem dX5_oneStepOn_31 : decode cX5_oneStepOn 31 = .ok (.invokestatic 207, 3) := by decide +kernel
theorem dX5_oneStepOn_34 : decode cX5_oneStepOn 34 = .ok (.ireturn, 1) := by decide +kernel
theorem dX5_giveEscorts_0 : decode cX5_giveEscorts 0 = .ok (.iconst 0, 1) := by decide +kernel
theorem dX5_giveEscorts_1 : decode cX5_giveEscorts 1 = .ok (.istore_n 1, 1) := by decide +kernel
theorem dX5_giveEscorts_2 : decode cX5_giveEscorts 2 = .ok (.iload_n 1, 1) := by decide +kernel
theorem dX5_giveEscorts_3 : decode cX5_giveEscorts 3 = .ok (.aload_n 0, 1) := by decide +kernel
theorem dX5_giveEscorts_4 : decode cX5_giveEscorts 4 = .ok (.getfield 24, 3) := by decide +kernel
theorem dX5_giveEscorts_7 : decode cX5_giveEscorts 7 = .ok (.invokevirtual 112, 3) := by decide +kernel
theorem dX5_giveEscorts_10 : decode cX5_giveEscorts 10 = .ok (.if_icmp .ge 57, 3) := by decide +kernel
theorem dX5_giveEscorts_13 : decode cX5_giveEscorts 13 = .ok (.aload_n 0, 1) := by decide +kernel
theorem dX5_giveEscorts_14 : decode cX5_giveEscorts 14 = .ok (.getfield 24, 3) := by decide +kernel
theorem dX5_giveEscorts_17 : decode cX5_giveEscorts 17 = .ok (.iload_n 1, 1) := by decide +kernel
theorem dX5_giveEscorts_18 : decode cX5_giveEscorts 18 = .ok (.invokevirtual 203, 3) := by decide +kernel
theorem dX5_giveEscorts_21 : decode cX5_giveEscorts 21 = .ok (.checkcast 117, 3) := by decide +kernel
theorem dX5_giveEscorts_24 : decode cX5_giveEscorts 24 = .ok (.astore_n 2, 1) := by decide +kernel
theorem dX5_giveEscorts_25 : decode cX5_giveEscorts 25 = .ok (.aload_n 2, 1) := by decide +kernel
theorem dX5_giveEscorts_26 : decode cX5_giveEscorts 26 = .ok (.getfield 158, 3) := by decide +kernel
theorem dX5_giveEscorts_29 : decode cX5_giveEscorts 29 = .ok (.ifCond .ne 32, 3) := by decide +kernel
theorem dX5_giveEscorts_32 : decode cX5_giveEscorts 32 = .ok (.aload_n 0, 1) := by decide +kernel
theorem dX5_giveEscorts_33 : decode cX5_giveEscorts 33 = .ok (.aload_n 2, 1) := by decide +kernel
theorem dX5_giveEscorts_34 : decode cX5_giveEscorts 34 = .ok (.getfield 213, 3) := by decide +kernel
theorem dX5_giveEscorts_37 : decode cX5_giveEscorts 37 = .ok (.invokevirtual 216, 3) := by decide +kernel
theorem dX5_giveEscorts_40 : decode cX5_giveEscorts 40 = .ok (.astore_n 3, 1) := by decide +kernel
theorem dX5_giveEscorts_41 : decode cX5_giveEscorts 41 = .ok (.aload_n 3, 1) := by decide +kernel
theorem dX5_giveEscorts_42 : decode cX5_giveEscorts 42 = .ok (.ifnonnull 4, 3) := by decide +kernel
theorem dX5_giveEscorts_45 : decode cX5_giveEscorts 45 = .ok (.return_, 1) := by decide +kernel
theorem dX5_giveEscorts_46 : decode cX5_giveEscorts 46 = .ok (.aload_n 3, 1) := by decide +kernel
theorem dX5_giveEscorts_47 : decode cX5_giveEscorts 47 = .ok (.iconst 0, 1) := by decide +kernel
theorem dX5_giveEscorts_48 : decode cX5_giveEscorts 48 = .ok (.putfield 102, 3) := by decide +kernel
theorem dX5_giveEscorts_51 : decode cX5_giveEscorts 51 = .ok (.aload_n 2, 1) := by decide +kernel
theorem dX5_giveEscorts_52 : decode cX5_giveEscorts 52 = .ok (.aload_n 3, 1) := by decide +kernel
theorem dX5_giveEscorts_53 : decode cX5_giveEscorts 53 = .ok (.putfield 154, 3) := by decide +kernel
theorem dX5_giveEscorts_56 : decode cX5_giveEscorts 56 = .ok (.aload_n 2, 1) := by decide +kernel
theorem dX5_giveEscorts_57 : decode cX5_giveEscorts 57 = .ok (.iconst 1, 1) := by decide +kernel
theorem dX5_giveEscorts_58 : decode cX5_giveEscorts 58 = .ok (.putfield 158, 3) := by decide +kernel
theorem dX5_giveEscorts_61 : decode cX5_giveEscorts 61 = .ok (.iinc 1 1, 3) := by decide +kernel
theorem dX5_giveEscorts_64 : decode cX5_giveEscorts 64 = .ok (.goto (-62), 3) := by decide +kernel
theorem dX5_giveEscorts_67 : decode cX5_giveEscorts 67 = .ok (.return_, 1) := by decide +kernel
theorem dX5_bestFreeEscort_0 : decode cX5_bestFreeEscort 0 = .ok (.aconst_null, 1) := by decide +kernel
theorem dX5_bestFreeEscort_1 : decode cX5_bestFreeEscort 1 = .ok (.astore_n 2, 1) := by decide +kernel
theorem dX5_bestFreeEscort_2 : decode cX5_bestFreeEscort 2 = .ok (.iconst 0, 1) := by decide +kernel
theorem dX5_bestFreeEscort_3 : decode cX5_bestFreeEscort 3 = .ok (.istore_n 3, 1) := by decide +kernel
theorem dX5_bestFreeEscort_4 : decode cX5_bestFreeEscort 4 = .ok (.iload_n 3, 1) := by decide +kernel
theorem dX5_bestFreeEscort_5 : decode cX5_bestFreeEscort 5 = .ok (.aload_n 0, 1) := by decide +kernel
theorem dX5_bestFreeEscort_6 : decode cX5_bestFreeEscort 6 = .ok (.getfield 17, 3) := by decide +kernel
theorem dX5_bestFreeEscort_9 : decode cX5_bestFreeEscort 9 = .ok (.arraylength, 1) := by decide +kernel
theorem dX5_bestFreeEscort_10 : decode cX5_bestFreeEscort 10 = .ok (.if_icmp .ge 47, 3) := by decide +kernel
theorem dX5_bestFreeEscort_13 : decode cX5_bestFreeEscort 13 = .ok (.aload_n 0, 1) := by decide +kernel
theorem dX5_bestFreeEscort_14 : decode cX5_bestFreeEscort 14 = .ok (.getfield 17, 3) := by decide +kernel
theorem dX5_bestFreeEscort_17 : decode cX5_bestFreeEscort 17 = .ok (.iload_n 3, 1) := by decide +kernel
theorem dX5_bestFreeEscort_18 : decode cX5_bestFreeEscort 18 = .ok (.aaload, 1) := by decide +kernel
theorem dX5_bestFreeEscort_19 : decode cX5_bestFreeEscort 19 = .ok (.astore 4, 2) := by decide +kernel
theorem dX5_bestFreeEscort_21 : decode cX5_bestFreeEscort 21 = .ok (.aload 4, 2) := by decide +kernel
theorem dX5_bestFreeEscort_23 : decode cX5_bestFreeEscort 23 = .ok (.ifnull 28, 3) := by decide +kernel
theorem dX5_bestFreeEscort_26 : decode cX5_bestFreeEscort 26 = .ok (.aload 4, 2) := by decide +kernel
theorem dX5_bestFreeEscort_28 : decode cX5_bestFreeEscort 28 = .ok (.getfield 102, 3) := by decide +kernel
theorem dX5_bestFreeEscort_31 : decode cX5_bestFreeEscort 31 = .ok (.ifCond .eq 20, 3) := by decide +kernel
theorem dX5_bestFreeEscort_34 : decode cX5_bestFreeEscort 34 = .ok (.aload_n 2, 1) := by decide +kernel
theorem dX5_bestFreeEscort_35 : decode cX5_bestFreeEscort 35 = .ok (.ifnull 13, 3) := by decide +kernel
theorem dX5_bestFreeEscort_38 : decode cX5_bestFreeEscort 38 = .ok (.aload 4, 2) := by decide +kernel
theorem dX5_bestFreeEscort_40 : decode cX5_bestFreeEscort 40 = .ok (.aload_n 2, 1) := by decide +kernel
theorem dX5_bestFreeEscort_41 : decode cX5_bestFreeEscort 41 = .ok (.iload_n 1, 1) := by decide +kernel
theorem dX5_bestFreeEscort_42 : decode cX5_bestFreeEscort 42 = .ok (.invokestatic 219, 3) := by decide +kernel
theorem dX5_bestFreeEscort_45 : decode cX5_bestFreeEscort 45 = .ok (.ifCond .eq 6, 3) := by decide +kernel
theorem dX5_bestFreeEscort_48 : decode cX5_bestFreeEscort 48 = .ok (.aload 4, 2) := by decide +kernel
theorem dX5_bestFreeEscort_50 : decode cX5_bestFreeEscort 50 = .ok (.astore_n 2, 1) := by decide +kernel
theorem dX5_bestFreeEscort_51 : decode cX5_bestFreeEscort 51 = .ok (.iinc 3 1, 3) := by decide +kernel
theorem dX5_bestFreeEscort_54 : decode cX5_bestFreeEscort 54 = .ok (.goto (-50), 3) := by decide +kernel
theorem dX5_bestFreeEscort_57 : decode cX5_bestFreeEscort 57 = .ok (.aload_n 2, 1) := by decide +kernel
theorem dX5_bestFreeEscort_58 : decode cX5_bestFreeEscort 58 = .ok (.areturn, 1) := by decide +kernel
theorem dX5_isBetter_0 : decode cX5_isBetter 0 = .ok (.aload_n 0, 1) := by decide +kernel
theorem dX5_isBetter_1 : decode cX5_isBetter 1 = .ok (.getfield 107, 3) := by decide +kernel
theorem dX5_isBetter_4 : decode cX5_isBetter 4 = .ok (.iload_n 2, 1) := by decide +kernel
theorem dX5_isBetter_5 : decode cX5_isBetter 5 = .ok (.invokestatic 186, 3) := by decide +kernel
theorem dX5_isBetter_8 : decode cX5_isBetter 8 = .ok (.istore_n 3, 1) := by decide +kernel
theorem dX5_isBetter_9 : decode cX5_isBetter 9 = .ok (.aload_n 1, 1) := by decide +kernel
theorem dX5_isBetter_10 : decode cX5_isBetter 10 = .ok (.getfield 107, 3) := by decide +kernel
theorem dX5_isBetter_13 : decode cX5_isBetter 13 = .ok (.iload_n 2, 1) := by decide +kernel
theorem dX5_isBetter_14 : decode cX5_isBetter 14 = .ok (.invokestatic 186, 3) := by decide +kernel
theorem dX5_isBetter_17 : decode cX5_isBetter 17 = .ok (.istore 4, 2) := by decide +kernel
theorem dX5_isBetter_19 : decode cX5_isBetter 19 = .ok (.iload_n 3, 1) := by decide +kernel
theorem dX5_isBetter_20 : decode cX5_isBetter 20 = .ok (.iload 4, 2) := by decide +kernel
theorem dX5_isBetter_22 : decode cX5_isBetter 22 = .ok (.if_icmp .lt 20, 3) := by decide +kernel
theorem dX5_isBetter_25 : decode cX5_isBetter 25 = .ok (.iload_n 3, 1) := by decide +kernel
theorem dX5_isBetter_26 : decode cX5_isBetter 26 = .ok (.iload 4, 2) := by decide +kernel
theorem dX5_isBetter_28 : decode cX5_isBetter 28 = .ok (.if_icmp .ne 18, 3) := by decide +kernel
theorem dX5_isBetter_31 : decode cX5_isBetter 31 = .ok (.aload_n 0, 1) := by decide +kernel
theorem dX5_isBetter_32 : decode cX5_isBetter 32 = .ok (.getfield 168, 3) := by decide +kernel
theorem dX5_isBetter_35 : decode cX5_isBetter 35 = .ok (.aload_n 1, 1) := by decide +kernel
theorem dX5_isBetter_36 : decode cX5_isBetter 36 = .ok (.getfield 168, 3) := by decide +kernel
theorem dX5_isBetter_39 : decode cX5_isBetter 39 = .ok (.if_icmp .le 7, 3) := by decide +kernel
theorem dX5_isBetter_42 : decode cX5_isBetter 42 = .ok (.iconst 1, 1) := by decide +kernel
theorem dX5_isBetter_43 : decode cX5_isBetter 43 = .ok (.goto 4, 3) := by decide +kernel
theorem dX5_isBetter_46 : decode cX5_isBetter 46 = .ok (.iconst 0, 1) := by decide +kernel
theorem dX5_isBetter_47 : decode cX5_isBetter 47 = .ok (.ireturn, 1) := by decide +kernel
theorem dX5_goOn_0 : decode cX5_goOn 0 = .ok (.iconst 0, 1) := by decide +kernel
theorem dX5_goOn_1 : decode cX5_goOn 1 = .ok (.istore_n 1, 1) := by decide +kernel
theorem dX5_goOn_2 : decode cX5_goOn 2 = .ok (.iconst 0, 1) := by decide +kernel
theorem dX5_goOn_3 : decode cX5_goOn 3 = .ok (.istore_n 2, 1) := by decide +kernel
theorem dX5_goOn_4 : decode cX5_goOn 4 = .ok (.iload_n 2, 1) := by decide +kernel
theorem dX5_goOn_5 : decode cX5_goOn 5 = .ok (.aload_n 0, 1) := by decide +kernel
theorem dX5_goOn_6 : decode cX5_goOn 6 = .ok (.getfield 24, 3) := by decide +kernel
theorem dX5_goOn_9 : decode cX5_goOn 9 = .ok (.invokevirtual 112, 3) := by decide +kernel
theorem dX5_goOn_12 : decode cX5_goOn 12 = .ok (.if_icmp .ge 73, 3) := by decide +kernel
theorem dX5_goOn_15 : decode cX5_goOn 15 = .ok (.aload_n 0, 1) := by decide +kernel
theorem dX5_goOn_16 : decode cX5_goOn 16 = .ok (.getfield 24, 3) := by decide +kernel
theorem dX5_goOn_19 : decode cX5_goOn 19 = .ok (.iload_n 2, 1) := by decide +kernel
theorem dX5_goOn_20 : decode cX5_goOn 20 = .ok (.invokevirtual 203, 3) := by decide +kernel
theorem dX5_goOn_23 : decode cX5_goOn 23 = .ok (.checkcast 117, 3) := by decide +kernel
theorem dX5_goOn_26 : decode cX5_goOn 26 = .ok (.astore_n 3, 1) := by decide +kernel
theorem dX5_goOn_27 : decode cX5_goOn 27 = .ok (.aload_n 3, 1) := by decide +kernel
theorem dX5_goOn_28 : decode cX5_goOn 28 = .ok (.getfield 154, 3) := by decide +kernel
theorem dX5_goOn_31 : decode cX5_goOn 31 = .ok (.astore 4, 2) := by decide +kernel
theorem dX5_goOn_33 : decode cX5_goOn 33 = .ok (.aload 4, 2) := by decide +kernel
theorem dX5_goOn_35 : decode cX5_goOn 35 = .ok (.ifnull 44, 3) := by decide +kernel
theorem dX5_goOn_38 : decode cX5_goOn 38 = .ok (.aload_n 3, 1) := by decide +kernel
theorem dX5_goOn_39 : decode cX5_goOn 39 = .ok (.getfield 158, 3) := by decide +kernel
theorem dX5_goOn_42 : decode cX5_goOn 42 = .ok (.iconst 3, 1) := by decide +kernel
theorem dX5_goOn_43 : decode cX5_goOn 43 = .ok (.if_icmp .eq 36, 3) := by decide +kernel
theorem dX5_goOn_46 : decode cX5_goOn 46 = .ok (.aload_n 3, 1) := by decide +kernel
theorem dX5_goOn_47 : decode cX5_goOn 47 = .ok (.aload 4, 2) := by decide +kernel
theorem dX5_goOn_49 : decode cX5_goOn 49 = .ok (.invokestatic 223, 3) := by decide +kernel
theorem dX5_goOn_52 : decode cX5_goOn 52 = .ok (.aload_n 3, 1) := by decide +kernel
theorem dX5_goOn_53 : decode cX5_goOn 53 = .ok (.getfield 158, 3) := by decide +kernel
theorem dX5_goOn_56 : decode cX5_goOn 56 = .ok (.iconst 2, 1) := by decide +kernel
theorem dX5_goOn_57 : decode cX5_goOn 57 = .ok (.if_icmp .ne 22, 3) := by decide +kernel
theorem dX5_goOn_60 : decode cX5_goOn 60 = .ok (.aload_n 0, 1) := by decide +kernel
theorem dX5_goOn_61 : decode cX5_goOn 61 = .ok (.aload_n 3, 1) := by decide +kernel
theorem dX5_goOn_62 : decode cX5_goOn 62 = .ok (.aload 4, 2) := by decide +kernel
theorem dX5_goOn_64 : decode cX5_goOn 64 = .ok (.getfield 107, 3) := by decide +kernel
theorem dX5_goOn_67 : decode cX5_goOn 67 = .ok (.invokevirtual 227, 3) := by decide +kernel
theorem dX5_goOn_70 : decode cX5_goOn 70 = .ok (.iload_n 1, 1) := by decide +kernel
theorem dX5_goOn_71 : decode cX5_goOn 71 = .ok (.aload_n 3, 1) := by decide +kernel
theorem dX5_goOn_72 : decode cX5_goOn 72 = .ok (.aload 4, 2) := by decide +kernel
theorem dX5_goOn_74 : decode cX5_goOn 74 = .ok (.invokestatic 231, 3) := by decide +kernel
theorem dX5_goOn_77 : decode cX5_goOn 77 = .ok (.iadd, 1) := by decide +kernel
theorem dX5_goOn_78 : decode cX5_goOn 78 = .ok (.istore_n 1, 1) := by decide +kernel
theorem dX5_goOn_79 : decode cX5_goOn 79 = .ok (.iinc 2 1, 3) := by decide +kernel
theorem dX5_goOn_82 : decode cX5_goOn 82 = .ok (.goto (-78), 3) := by decide +kernel
theorem dX5_goOn_85 : decode cX5_goOn 85 = .ok (.iload_n 1, 1) := by decide +kernel
theorem dX5_goOn_86 : decode cX5_goOn 86 = .ok (.ireturn, 1) := by decide +kernel
theorem dX5_move_0 : decode cX5_move 0 = .ok (.aload_n 0, 1) := by decide +kernel
theorem dX5_move_1 : decode cX5_move 1 = .ok (.getfield 158, 3) := by decide +kernel
theorem dX5_move_4 : decode cX5_move 4 = .ok (.iconst 2, 1) := by decide +kernel
theorem dX5_move_5 : decode cX5_move 5 = .ok (.if_icmp .ne 19, 3) := by decide +kernel
theorem dX5_move_8 : decode cX5_move 8 = .ok (.aload_n 1, 1) := by decide +kernel
theorem dX5_move_9 : decode cX5_move 9 = .ok (.aload_n 1, 1) := by decide +kernel
theorem dX5_move_10 : decode cX5_move 10 = .ok (.getfield 107, 3) := by decide +kernel
theorem dX5_move_13 : decode cX5_move 13 = .ok (.aload_n 0, 1) := by decide +kernel
theorem dX5_move_14 : decode cX5_move 14 = .ok (.getfield 235, 3) := by decide +kernel
theorem dX5_move_17 : decode cX5_move 17 = .ok (.invokestatic 238, 3) := by decide +kernel
theorem dX5_move_20 : decode cX5_move 20 = .ok (.putfield 107, 3) := by decide +kernel
theorem dX5_move_23 : decode cX5_move 23 = .ok (.return_, 1) := by decide +kernel
theorem dX5_move_24 : decode cX5_move 24 = .ok (.aload_n 1, 1) := by decide +kernel
theorem dX5_move_25 : decode cX5_move 25 = .ok (.aload_n 1, 1) := by decide +kernel
theorem dX5_move_26 : decode cX5_move 26 = .ok (.getfield 107, 3) := by decide +kernel
theorem dX5_move_29 : decode cX5_move 29 = .ok (.aload_n 0, 1) := by decide +kernel
theorem dX5_move_30 : decode cX5_move 30 = .ok (.getfield 213, 3) := by decide +kernel
theorem dX5_move_33 : decode cX5_move 33 = .ok (.invokestatic 238, 3) := by decide +kernel
theorem dX5_move_36 : decode cX5_move 36 = .ok (.putfield 107, 3) := by decide +kernel
theorem dX5_move_39 : decode cX5_move 39 = .ok (.aload_n 1, 1) := by decide +kernel
theorem dX5_move_40 : decode cX5_move 40 = .ok (.getfield 107, 3) := by decide +kernel
theorem dX5_move_43 : decode cX5_move 43 = .ok (.aload_n 0, 1) := by decide +kernel
theorem dX5_move_44 : decode cX5_move 44 = .ok (.getfield 213, 3) := by decide +kernel
theorem dX5_move_47 : decode cX5_move 47 = .ok (.if_icmp .ne 8, 3) := by decide +kernel
theorem dX5_move_50 : decode cX5_move 50 = .ok (.aload_n 0, 1) := by decide +kernel
theorem dX5_move_51 : decode cX5_move 51 = .ok (.iconst 2, 1) := by decide +kernel
theorem dX5_move_52 : decode cX5_move 52 = .ok (.putfield 158, 3) := by decide +kernel
theorem dX5_move_55 : decode cX5_move 55 = .ok (.return_, 1) := by decide +kernel
theorem dX5_see_0 : decode cX5_see 0 = .ok (.aload_n 0, 1) := by decide +kernel
theorem dX5_see_1 : decode cX5_see 1 = .ok (.iload_n 2, 1) := by decide +kernel
theorem dX5_see_2 : decode cX5_see 2 = .ok (.invokevirtual 46, 3) := by decide +kernel
theorem dX5_see_5 : decode cX5_see 5 = .ok (.astore_n 3, 1) := by decide +kernel
theorem dX5_see_6 : decode cX5_see 6 = .ok (.aload_n 3, 1) := by decide +kernel
theorem dX5_see_7 : decode cX5_see 7 = .ok (.ifnonnull 4, 3) := by decide +kernel
theorem dX5_see_10 : decode cX5_see 10 = .ok (.return_, 1) := by decide +kernel
theorem dX5_see_11 : decode cX5_see 11 = .ok (.aload_n 3, 1) := by decide +kernel
theorem dX5_see_12 : decode cX5_see 12 = .ok (.getfield 62, 3) := by decide +kernel
theorem dX5_see_15 : decode cX5_see 15 = .ok (.aload_n 3, 1) := by decide +kernel
theorem dX5_see_16 : decode cX5_see 16 = .ok (.getfield 73, 3) := by decide +kernel
theorem dX5_see_19 : decode cX5_see 19 = .ok (.if_icmp .lt 19, 3) := by decide +kernel
theorem dX5_see_22 : decode cX5_see 22 = .ok (.aload_n 3, 1) := by decide +kernel
theorem dX5_see_23 : decode cX5_see 23 = .ok (.dup, 1) := by decide +kernel
theorem dX5_see_24 : decode cX5_see 24 = .ok (.getfield 62, 3) := by decide +kernel
theorem dX5_see_27 : decode cX5_see 27 = .ok (.aload_n 3, 1) := by decide +kernel
theorem dX5_see_28 : decode cX5_see 28 = .ok (.getfield 73, 3) := by decide +kernel
theorem dX5_see_31 : decode cX5_see 31 = .ok (.isub, 1) := by decide +kernel
theorem dX5_see_32 : decode cX5_see 32 = .ok (.putfield 62, 3) := by decide +kernel
theorem dX5_see_35 : decode cX5_see 35 = .ok (.goto 13, 3) := by decide +kernel
theorem dX5_see_38 : decode cX5_see 38 = .ok (.aload_n 1, 1) := by decide +kernel
theorem dX5_see_39 : decode cX5_see 39 = .ok (.dup, 1) := by decide +kernel
theorem dX5_see_40 : decode cX5_see 40 = .ok (.getfield 183, 3) := by decide +kernel
theorem dX5_see_43 : decode cX5_see 43 = .ok (.iconst 1, 1) := by decide +kernel
theorem dX5_see_44 : decode cX5_see 44 = .ok (.iadd, 1) := by decide +kernel
theorem dX5_see_45 : decode cX5_see 45 = .ok (.putfield 183, 3) := by decide +kernel
theorem dX5_see_48 : decode cX5_see 48 = .ok (.aload_n 3, 1) := by decide +kernel
theorem dX5_see_49 : decode cX5_see 49 = .ok (.getfield 76, 3) := by decide +kernel
theorem dX5_see_52 : decode cX5_see 52 = .ok (.ifCond .eq 28, 3) := by decide +kernel
theorem dX5_see_55 : decode cX5_see 55 = .ok (.aload_n 0, 1) := by decide +kernel
theorem dX5_see_56 : decode cX5_see 56 = .ok (.getfield 31, 3) := by decide +kernel
theorem dX5_see_59 : decode cX5_see 59 = .ok (.iload_n 2, 1) := by decide +kernel
theorem dX5_see_60 : decode cX5_see 60 = .ok (.aload_n 1, 1) := by decide +kernel
theorem dX5_see_61 : decode cX5_see 61 = .ok (.getfield 241, 3) := by decide +kernel
theorem dX5_see_64 : decode cX5_see 64 = .ok (.aload_n 0, 1) := by decide +kernel
theorem dX5_see_65 : decode cX5_see 65 = .ok (.getfield 35, 3) := by decide +kernel
theorem dX5_see_68 : decode cX5_see 68 = .ok (.aload_n 0, 1) := by decide +kernel
theorem dX5_see_69 : decode cX5_see 69 = .ok (.getfield 35, 3) := by decide +kernel
theorem dX5_see_72 : decode cX5_see 72 = .ok (.aload_n 3, 1) := by decide +kernel
theorem dX5_see_73 : decode cX5_see 73 = .ok (.invokevirtual 88, 3) := by decide +kernel
theorem dX5_see_76 : decode cX5_see 76 = .ok (.iadd, 1) := by decide +kernel
theorem dX5_see_77 : decode cX5_see 77 = .ok (.invokevirtual 242, 3) := by decide +kernel
theorem dX5_see_80 : decode cX5_see 80 = .ok (.return_, 1) := by decide +kernel
theorem dX5_endIfThere_0 : decode cX5_endIfThere 0 = .ok (.aload_n 1, 1) := by decide +kernel
theorem dX5_endIfThere_1 : decode cX5_endIfThere 1 = .ok (.getfield 107, 3) := by decide +kernel
theorem dX5_endIfThere_4 : decode cX5_endIfThere 4 = .ok (.aload_n 0, 1) := by decide +kernel
theorem dX5_endIfThere_5 : decode cX5_endIfThere 5 = .ok (.getfield 235, 3) := by decide +kernel
theorem dX5_endIfThere_8 : decode cX5_endIfThere 8 = .ok (.if_icmp .eq 5, 3) := by decide +kernel
theorem dX5_endIfThere_11 : decode cX5_endIfThere 11 = .ok (.iconst 0, 1) := by decide +kernel
theorem dX5_endIfThere_12 : decode cX5_endIfThere 12 = .ok (.ireturn, 1) := by decide +kernel
theorem dX5_endIfThere_13 : decode cX5_endIfThere 13 = .ok (.aload_n 0, 1) := by decide +kernel
theorem dX5_endIfThere_14 : decode cX5_endIfThere 14 = .ok (.iconst 3, 1) := by decide +kernel
theorem dX5_endIfThere_15 : decode cX5_endIfThere 15 = .ok (.putfield 158, 3) := by decide +kernel
theorem dX5_endIfThere_18 : decode cX5_endIfThere 18 = .ok (.aload_n 1, 1) := by decide +kernel
theorem dX5_endIfThere_19 : decode cX5_endIfThere 19 = .ok (.iconst 1, 1) := by decide +kernel
theorem dX5_endIfThere_20 : decode cX5_endIfThere 20 = .ok (.putfield 102, 3) := by decide +kernel
theorem dX5_endIfThere_23 : decode cX5_endIfThere 23 = .ok (.iconst 1, 1) := by decide +kernel
theorem dX5_endIfThere_24 : decode cX5_endIfThere 24 = .ok (.ireturn, 1) := by decide +kernel
theorem dX5_areAllOver_0 : decode cX5_areAllOver 0 = .ok (.iconst 0, 1) := by decide +kernel
theorem dX5_areAllOver_1 : decode cX5_areAllOver 1 = .ok (.istore_n 1, 1) := by decide +kernel
theorem dX5_areAllOver_2 : decode cX5_areAllOver 2 = .ok (.iload_n 1, 1) := by decide +kernel
theorem dX5_areAllOver_3 : decode cX5_areAllOver 3 = .ok (.aload_n 0, 1) := by decide +kernel
theorem dX5_areAllOver_4 : decode cX5_areAllOver 4 = .ok (.getfield 24, 3) := by decide +kernel
theorem dX5_areAllOver_7 : decode cX5_areAllOver 7 = .ok (.invokevirtual 112, 3) := by decide +kernel
theorem dX5_areAllOver_10 : decode cX5_areAllOver 10 = .ok (.if_icmp .ge 29, 3) := by decide +kernel
theorem dX5_areAllOver_13 : decode cX5_areAllOver 13 = .ok (.aload_n 0, 1) := by decide +kernel
theorem dX5_areAllOver_14 : decode cX5_areAllOver 14 = .ok (.getfield 24, 3) := by decide +kernel
theorem dX5_areAllOver_17 : decode cX5_areAllOver 17 = .ok (.iload_n 1, 1) := by decide +kernel
theorem dX5_areAllOver_18 : decode cX5_areAllOver 18 = .ok (.invokevirtual 203, 3) := by decide +kernel
theorem dX5_areAllOver_21 : decode cX5_areAllOver 21 = .ok (.checkcast 117, 3) := by decide +kernel
theorem dX5_areAllOver_24 : decode cX5_areAllOver 24 = .ok (.getfield 158, 3) := by decide +kernel
theorem dX5_areAllOver_27 : decode cX5_areAllOver 27 = .ok (.iconst 3, 1) := by decide +kernel
theorem dX5_areAllOver_28 : decode cX5_areAllOver 28 = .ok (.if_icmp .eq 5, 3) := by decide +kernel
theorem dX5_areAllOver_31 : decode cX5_areAllOver 31 = .ok (.iconst 0, 1) := by decide +kernel
theorem dX5_areAllOver_32 : decode cX5_areAllOver 32 = .ok (.ireturn, 1) := by decide +kernel
theorem dX5_areAllOver_33 : decode cX5_areAllOver 33 = .ok (.iinc 1 1, 3) := by decide +kernel
theorem dX5_areAllOver_36 : decode cX5_areAllOver 36 = .ok (.goto (-34), 3) := by decide +kernel
theorem dX5_areAllOver_39 : decode cX5_areAllOver 39 = .ok (.iconst 1, 1) := by decide +kernel
theorem dX5_areAllOver_40 : decode cX5_areAllOver 40 = .ok (.ireturn, 1) := by decide +kernel
theorem dX6_init_0 : decode cX6_init 0 = .ok (.aload_n 0, 1) := by decide +kernel
theorem dX6_init_1 : decode cX6_init 1 = .ok (.invokespecial 1, 3) := by decide +kernel
theorem dX6_init_4 : decode cX6_init 4 = .ok (.aload_n 0, 1) := by decide +kernel
theorem dX6_init_5 : decode cX6_init 5 = .ok (.bipush 8, 2) := by decide +kernel
theorem dX6_init_7 : decode cX6_init 7 = .ok (.newarray .int, 2) := by decide +kernel
theorem dX6_init_9 : decode cX6_init 9 = .ok (.putfield 7, 3) := by decide +kernel
theorem dX6_init_12 : decode cX6_init 12 = .ok (.aload_n 0, 1) := by decide +kernel
theorem dX6_init_13 : decode cX6_init 13 = .ok (.bipush 8, 2) := by decide +kernel
theorem dX6_init_15 : decode cX6_init 15 = .ok (.newarray .int, 2) := by decide +kernel
theorem dX6_init_17 : decode cX6_init 17 = .ok (.putfield 13, 3) := by decide +kernel
theorem dX6_init_20 : decode cX6_init 20 = .ok (.aload_n 0, 1) := by decide +kernel
theorem dX6_init_21 : decode cX6_init 21 = .ok (.bipush 8, 2) := by decide +kernel
theorem dX6_init_23 : decode cX6_init 23 = .ok (.newarray .boolean, 2) := by decide +kernel
theorem dX6_init_25 : decode cX6_init 25 = .ok (.putfield 16, 3) := by decide +kernel
theorem dX6_init_28 : decode cX6_init 28 = .ok (.aload_n 0, 1) := by decide +kernel
theorem dX6_init_29 : decode cX6_init 29 = .ok (.bipush 24, 2) := by decide +kernel
theorem dX6_init_31 : decode cX6_init 31 = .ok (.newarray .int, 2) := by decide +kernel
theorem dX6_init_33 : decode cX6_init 33 = .ok (.putfield 20, 3) := by decide +kernel
theorem dX6_init_36 : decode cX6_init 36 = .ok (.aload_n 0, 1) := by decide +kernel
theorem dX6_init_37 : decode cX6_init 37 = .ok (.iconst 4, 1) := by decide +kernel
theorem dX6_init_38 : decode cX6_init 38 = .ok (.newarray .int, 2) := by decide +kernel
theorem dX6_init_40 : decode cX6_init 40 = .ok (.putfield 23, 3) := by decide +kernel
theorem dX6_init_43 : decode cX6_init 43 = .ok (.aload_n 0, 1) := by decide +kernel
theorem dX6_init_44 : decode cX6_init 44 = .ok (.iconst 4, 1) := by decide +kernel
theorem dX6_init_45 : decode cX6_init 45 = .ok (.newarray .int, 2) := by decide +kernel
theorem dX6_init_47 : decode cX6_init 47 = .ok (.putfield 26, 3) := by decide +kernel
theorem dX6_init_50 : decode cX6_init 50 = .ok (.aload_n 0, 1) := by decide +kernel
theorem dX6_init_51 : decode cX6_init 51 = .ok (.iconst 4, 1) := by decide +kernel
theorem dX6_init_52 : decode cX6_init 52 = .ok (.newarray .boolean, 2) := by decide +kernel
theorem dX6_init_54 : decode cX6_init 54 = .ok (.putfield 29, 3) := by decide +kernel
theorem dX6_init_57 : decode cX6_init 57 = .ok (.aload_n 0, 1) := by decide +kernel
theorem dX6_init_58 : decode cX6_init 58 = .ok (.bipush 60, 2) := by decide +kernel
theorem dX6_init_60 : decode cX6_init 60 = .ok (.newarray .int, 2) := by decide +kernel
theorem dX6_init_62 : decode cX6_init 62 = .ok (.putfield 32, 3) := by decide +kernel
theorem dX6_init_65 : decode cX6_init 65 = .ok (.aload_n 0, 1) := by decide +kernel
theorem dX6_init_66 : decode cX6_init 66 = .ok (.bipush 60, 2) := by decide +kernel
theorem dX6_init_68 : decode cX6_init 68 = .ok (.newarray .int, 2) := by decide +kernel
theorem dX6_init_70 : decode cX6_init 70 = .ok (.putfield 35, 3) := by decide +kernel
theorem dX6_init_73 : decode cX6_init 73 = .ok (.aload_n 0, 1) := by decide +kernel
theorem dX6_init_74 : decode cX6_init 74 = .ok (.bipush 60, 2) := by decide +kernel
theorem dX6_init_76 : decode cX6_init 76 = .ok (.newarray .int, 2) := by decide +kernel
theorem dX6_init_78 : decode cX6_init 78 = .ok (.putfield 38, 3) := by decide +kernel
theorem dX6_init_81 : decode cX6_init 81 = .ok (.aload_n 0, 1) := by decide +kernel
theorem dX6_init_82 : decode cX6_init 82 = .ok (.bipush 60, 2) := by decide +kernel
theorem dX6_init_84 : decode cX6_init 84 = .ok (.newarray .int, 2) := by decide +kernel
theorem dX6_init_86 : decode cX6_init 86 = .ok (.putfield 41, 3) := by decide +kernel
theorem dX6_init_89 : decode cX6_init 89 = .ok (.aload_n 0, 1) := by decide +kernel
theorem dX6_init_90 : decode cX6_init 90 = .ok (.bipush 60, 2) := by decide +kernel
theorem dX6_init_92 : decode cX6_init 92 = .ok (.newarray .int, 2) := by decide +kernel
theorem dX6_init_94 : decode cX6_init 94 = .ok (.putfield 44, 3) := by decide +kernel
theorem dX6_init_97 : decode cX6_init 97 = .ok (.aload_n 0, 1) := by decide +kernel
theorem dX6_init_98 : decode cX6_init 98 = .ok (.bipush 60, 2) := by decide +kernel
theorem dX6_init_100 : decode cX6_init 100 = .ok (.newarray .boolean, 2) := by decide +kernel
theorem dX6_init_102 : decode cX6_init 102 = .ok (.putfield 47, 3) := by decide +kernel
theorem dX6_init_105 : decode cX6_init 105 = .ok (.aload_n 0, 1) := by decide +kernel
theorem dX6_init_106 : decode cX6_init 106 = .ok (.sipush 300, 3) := by decide +kernel
theorem dX6_init_109 : decode cX6_init 109 = .ok (.newarray .int, 2) := by decide +kernel
theorem dX6_init_111 : decode cX6_init 111 = .ok (.putfield 50, 3) := by decide +kernel
theorem dX6_init_114 : decode cX6_init 114 = .ok (.aload_n 0, 1) := by decide +kernel
theorem dX6_init_115 : decode cX6_init 115 = .ok (.sipush 300, 3) := by decide +kernel
theorem dX6_init_118 : decode cX6_init 118 = .ok (.newarray .int, 2) := by decide +kernel
theorem dX6_init_120 : decode cX6_init 120 = .ok (.putfield 53, 3) := by decide +kernel
theorem dX6_init_123 : decode cX6_init 123 = .ok (.aload_n 0, 1) := by decide +kernel
theorem dX6_init_124 : decode cX6_init 124 = .ok (.sipush 300, 3) := by decide +kernel
theorem dX6_init_127 : decode cX6_init 127 = .ok (.newarray .int, 2) := by decide +kernel
theorem dX6_init_129 : decode cX6_init 129 = .ok (.putfield 56, 3) := by decide +kernel
theorem dX6_init_132 : decode cX6_init 132 = .ok (.aload_n 0, 1) := by decide +kernel
theorem dX6_init_133 : decode cX6_init 133 = .ok (.sipush 300, 3) := by decide +kernel
theorem dX6_init_136 : decode cX6_init 136 = .ok (.newarray .int, 2) := by decide +kernel
theorem dX6_init_138 : decode cX6_init 138 = .ok (.putfield 59, 3) := by decide +kernel
theorem dX6_init_141 : decode cX6_init 141 = .ok (.iconst 0, 1) := by decide +kernel
theorem dX6_init_142 : decode cX6_init 142 = .ok (.istore_n 1, 1) := by decide +kernel
theorem dX6_init_143 : decode cX6_init 143 = .ok (.iload_n 1, 1) := by decide +kernel
theorem dX6_init_144 : decode cX6_init 144 = .ok (.bipush 8, 2) := by decide +kernel
theorem dX6_init_146 : decode cX6_init 146 = .ok (.if_icmp .ge 16, 3) := by decide +kernel
theorem dX6_init_149 : decode cX6_init 149 = .ok (.aload_n 0, 1) := by decide +kernel
theorem dX6_init_150 : decode cX6_init 150 = .ok (.getfield 13, 3) := by decide +kernel
theorem dX6_init_153 : decode cX6_init 153 = .ok (.iload_n 1, 1) := by decide +kernel
theorem dX6_init_154 : decode cX6_init 154 = .ok (.iconst 1, 1) := by decide +kernel
theorem dX6_init_155 : decode cX6_init 155 = .ok (.iastore, 1) := by decide +kernel
theorem dX6_init_156 : decode cX6_init 156 = .ok (.iinc 1 1, 3) := by decide +kernel
theorem dX6_init_159 : decode cX6_init 159 = .ok (.goto (-16), 3) := by decide +kernel
theorem dX6_init_162 : decode cX6_init 162 = .ok (.iconst 0, 1) := by decide +kernel
theorem dX6_init_163 : decode cX6_init 163 = .ok (.istore_n 1, 1) := by decide +kernel
theorem dX6_init_164 : decode cX6_init 164 = .ok (.iload_n 1, 1) := by decide +kernel
theorem dX6_init_165 : decode cX6_init 165 = .ok (.bipush 24, 2) := by decide +kernel
theorem dX6_init_167 : decode cX6_init 167 = .ok (.if_icmp .ge 17, 3) := by decide +kernel
theorem dX6_init_170 : decode cX6_init 170 = .ok (.aload_n 0, 1) := by decide +kernel
theorem dX6_init_171 : decode cX6_init 171 = .ok (.getfield 20, 3) := by decide +kernel
theorem dX6_init_174 : decode cX6_init 174 = .ok (.iload_n 1, 1) := by decide +kernel
theorem dX6_init_175 : decode cX6_init 175 = .ok (.bipush 7, 2) := by decide +kernel
theorem dX6_init_177 : decode cX6_init 177 = .ok (.iastore, 1) := by decide +kernel
theorem dX6_init_178 : decode cX6_init 178 = .ok (.iinc 1 1, 3) := by decide +kernel
theorem dX6_init_181 : decode cX6_init 181 = .ok (.goto (-17), 3) := by decide +kernel
theorem dX6_init_184 : decode cX6_init 184 = .ok (.iconst 0, 1) := by decide +kernel
theorem dX6_init_185 : decode cX6_init 185 = .ok (.istore_n 1, 1) := by decide +kernel
theorem dX6_init_186 : decode cX6_init 186 = .ok (.iload_n 1, 1) := by decide +kernel
theorem dX6_init_187 : decode cX6_init 187 = .ok (.iconst 4, 1) := by decide +kernel
theorem dX6_init_188 : decode cX6_init 188 = .ok (.if_icmp .ge 17, 3) := by decide +kernel
theorem dX6_init_191 : decode cX6_init 191 = .ok (.aload_n 0, 1) := by decide +kernel
theorem dX6_init_192 : decode cX6_init 192 = .ok (.getfield 26, 3) := by decide +kernel
theorem dX6_init_195 : decode cX6_init 195 = .ok (.iload_n 1, 1) := by decide +kernel
theorem dX6_init_196 : decode cX6_init 196 = .ok (.bipush 50, 2) := by decide +kernel
theorem dX6_init_198 : decode cX6_init 198 = .ok (.iastore, 1) := by decide +kernel
theorem dX6_init_199 : decode cX6_init 199 = .ok (.iinc 1 1, 3) := by decide +kernel
theorem dX6_init_202 : decode cX6_init 202 = .ok (.goto (-16), 3) := by decide +kernel
theorem dX6_init_205 : decode cX6_init 205 = .ok (.return_, 1) := by decide +kernel
theorem dX6_thrown_0 : decode cX6_thrown 0 = .ok (.aload_n 0, 1) := by decide +kernel
theorem dX6_thrown_1 : decode cX6_thrown 1 = .ok (.getfield 62, 3) := by decide +kernel
theorem dX6_thrown_4 : decode cX6_thrown 4 = .ok (.ireturn, 1) := by decide +kernel
theorem dX6_fails_0 : decode cX6_fails 0 = .ok (.aload_n 0, 1) := by decide +kernel
theorem dX6_fails_1 : decode cX6_fails 1 = .ok (.iload_n 1, 1) := by decide +kernel
theorem dX6_fails_2 : decode cX6_fails 2 = .ok (.putfield 62, 3) := by decide +kernel
theorem dX6_fails_5 : decode cX6_fails 5 = .ok (.iconst 0, 1) := by decide +kernel
theorem dX6_fails_6 : decode cX6_fails 6 = .ok (.ireturn, 1) := by decide +kernel
theorem dX6_in_0 : decode cX6_in 0 = .ok (.iload_n 0, 1) := by decide +kernel
theorem dX6_in_1 : decode cX6_in 1 = .ok (.iload_n 1, 1) := by decide +kernel
theorem dX6_in_2 : decode cX6_in 2 = .ok (.if_icmp .lt 12, 3) := by decide +kernel
theorem dX6_in_5 : decode cX6_in 5 = .ok (.iload_n 0, 1) := by decide +kernel
theorem dX6_in_6 : decode cX6_in 6 = .ok (.iload_n 2, 1) := by decide +kernel
theorem dX6_in_7 : decode cX6_in 7 = .ok (.if_icmp .gt 7, 3) := by decide +kernel
theorem dX6_in_10 : decode cX6_in 10 = .ok (.iconst 1, 1) := by decide +kernel
theorem dX6_in_11 : decode cX6_in 11 = .ok (.goto 4, 3) := by decide +kernel
theorem dX6_in_14 : decode cX6_in 14 = .ok (.iconst 0, 1) := by decide +kernel
theorem dX6_in_15 : decode cX6_in 15 = .ok (.ireturn, 1) := by decide +kernel
theorem dX6_isStreet_0 : decode cX6_isStreet 0 = .ok (.iload_n 0, 1) := by decide +kernel
theorem dX6_isStreet_1 : decode cX6_isStreet 1 = .ok (.iconst 0, 1) := by decide +kernel
theorem dX6_isStreet_2 : decode cX6_isStreet 2 = .ok (.bipush 7, 2) := by decide +kernel
theorem dX6_isStreet_4 : decode cX6_isStreet 4 = .ok (.invokestatic 66, 3) := by decide +kernel
theorem dX6_isStreet_7 : decode cX6_isStreet 7 = .ok (.ireturn, 1) := by decide +kernel
theorem dX6_isEscort_0 : decode cX6_isEscort 0 = .ok (.iload_n 0, 1) := by decide +kernel
theorem dX6_isEscort_1 : decode cX6_isEscort 1 = .ok (.iconst 0, 1) := by decide +kernel
theorem dX6_isEscort_2 : decode cX6_isEscort 2 = .ok (.iconst 3, 1) := by decide +kernel
theorem dX6_isEscort_3 : decode cX6_isEscort 3 = .ok (.invokestatic 66, 3) := by decide +kernel
theorem dX6_isEscort_6 : decode cX6_isEscort 6 = .ok (.ireturn, 1) := by decide +kernel
theorem dX6_isWalk_0 : decode cX6_isWalk 0 = .ok (.iload_n 1, 1) := by decide +kernel
theorem dX6_isWalk_1 : decode cX6_isWalk 1 = .ok (.iconst 0, 1) := by decide +kernel
theorem dX6_isWalk_2 : decode cX6_isWalk 2 = .ok (.aload_n 0, 1) := by decide +kernel
theorem dX6_isWalk_3 : decode cX6_isWalk 3 = .ok (.getfield 70, 3) := by decide +kernel
theorem dX6_isWalk_6 : decode cX6_isWalk 6 = .ok (.iconst 1, 1) := by decide +kernel
theorem dX6_isWalk_7 : decode cX6_isWalk 7 = .ok (.isub, 1) := by decide +kernel
theorem dX6_isWalk_8 : decode cX6_isWalk 8 = .ok (.invokestatic 66, 3) := by decide +kernel
theorem dX6_isWalk_11 : decode cX6_isWalk 11 = .ok (.ireturn, 1) := by decide +kernel
theorem dX6_pay_0 : decode cX6_pay 0 = .ok (.aload_n 0, 1) := by decide +kernel
theorem dX6_pay_1 : decode cX6_pay 1 = .ok (.iconst 0, 1) := by decide +kernel
theorem dX6_pay_2 : decode cX6_pay 2 = .ok (.putfield 62, 3) := by decide +kernel
theorem dX6_pay_5 : decode cX6_pay 5 = .ok (.iload_n 1, 1) := by decide +kernel
theorem dX6_pay_6 : decode cX6_pay 6 = .ok (.invokestatic 73, 3) := by decide +kernel
theorem dX6_pay_9 : decode cX6_pay 9 = .ok (.ifCond .ne 9, 3) := by decide +kernel
theorem dX6_pay_12 : decode cX6_pay 12 = .ok (.aload_n 0, 1) := by decide +kernel
theorem dX6_pay_13 : decode cX6_pay 13 = .ok (.iconst 1, 1) := by decide +kernel
theorem dX6_pay_14 : decode cX6_pay 14 = .ok (.invokevirtual 77, 3) := by decide +kernel
theorem dX6_pay_17 : decode cX6_pay 17 = .ok (.ireturn, 1) := by decide +kernel
theorem dX6_pay_18 : decode cX6_pay 18 = .ok (.iload_n 2, 1) := by decide +kernel
theorem dX6_pay_19 : decode cX6_pay 19 = .ok (.iconst 1, 1) := by decide +kernel
theorem dX6_pay_20 : decode cX6_pay 20 = .ok (.sipush 10000, 3) := by decide +kernel
theorem dX6_pay_23 : decode cX6_pay 23 = .ok (.invokestatic 66, 3) := by decide +kernel
theorem dX6_pay_26 : decode cX6_pay 26 = .ok (.ifCond .ne 9, 3) := by decide +kernel
theorem dX6_pay_29 : decode cX6_pay 29 = .ok (.aload_n 0, 1) := by decide +kernel
theorem dX6_pay_30 : decode cX6_pay 30 = .ok (.iconst 2, 1) := by decide +kernel
theorem dX6_pay_31 : decode cX6_pay 31 = .ok (.invokevirtual 77, 3) := by decide +kernel
theorem dX6_pay_34 : decode cX6_pay 34 = .ok (.ireturn, 1) := by decide +kernel
theorem dX6_pay_35 : decode cX6_pay 35 = .ok (.aload_n 0, 1) := by decide +kernel
theorem dX6_pay_36 : decode cX6_pay 36 = .ok (.getfield 7, 3) := by decide +kernel
theorem dX6_pay_39 : decode cX6_pay 39 = .ok (.iload_n 1, 1) := by decide +kernel
theorem dX6_pay_40 : decode cX6_pay 40 = .ok (.iaload, 1) := by decide +kernel
theorem dX6_pay_41 : decode cX6_pay 41 = .ok (.iload_n 2, 1) := by decide +kernel
theorem dX6_pay_42 : decode cX6_pay 42 = .ok (.iadd, 1) := by decide +kernel
theorem dX6_pay_43 : decode cX6_pay 43 = .ok (.ldc 81, 2) := by decide +kernel
theorem dX6_pay_45 : decode cX6_pay 45 = .ok (.if_icmp .le 9, 3) := by decide +kernel
theorem dX6_pay_48 : decode cX6_pay 48 = .ok (.aload_n 0, 1) := by decide +kernel
theorem dX6_pay_49 : decode cX6_pay 49 = .ok (.iconst 3, 1) := by decide +kernel
theorem dX6_pay_50 : decode cX6_pay 50 = .ok (.invokevirtual 77, 3) := by decide +kernel
theorem dX6_pay_53 : decode cX6_pay 53 = .ok (.ireturn, 1) := by decide +kernel
theorem dX6_pay_54 : decode cX6_pay 54 = .ok (.aload_n 0, 1) := by decide +kernel
theorem dX6_pay_55 : decode cX6_pay 55 = .ok (.getfield 7, 3) := by decide +kernel
theorem dX6_pay_58 : decode cX6_pay 58 = .ok (.iload_n 1, 1) := by decide +kernel
theorem dX6_pay_59 : decode cX6_pay 59 = .ok (.dup2, 1) := by decide +kernel
theorem dX6_pay_60 : decode cX6_pay 60 = .ok (.iaload, 1) := by decide +kernel
theorem dX6_pay_61 : decode cX6_pay 61 = .ok (.iload_n 2, 1) := by decide +kernel
theorem dX6_pay_62 : decode cX6_pay 62 = .ok (.iadd, 1) := by decide +kernel
theorem dX6_pay_63 : decode cX6_pay 63 = .ok (.iastore, 1) := by decide +kernel
theorem dX6_pay_64 : decode cX6_pay 64 = .ok (.aload_n 0, 1) := by decide +kernel
theorem dX6_pay_65 : decode cX6_pay 65 = .ok (.getfield 7, 3) := by decide +kernel
theorem dX6_pay_68 : decode cX6_pay 68 = .ok (.iload_n 1, 1) := by decide +kernel
theorem dX6_pay_69 : decode cX6_pay 69 = .ok (.iaload, 1) := by decide +kernel
theorem dX6_pay_70 : decode cX6_pay 70 = .ok (.ireturn, 1) := by decide +kernel
theorem dX6_setStreet_0 : decode cX6_setStreet 0 = .ok (.aload_n 0, 1) := by decide +kernel
theorem dX6_setStreet_1 : decode cX6_setStreet 1 = .ok (.iconst 0, 1) := by decide +kernel
theorem dX6_setStreet_2 : decode cX6_setStreet 2 = .ok (.putfield 62, 3) := by decide +kernel
theorem dX6_setStreet_5 : decode cX6_setStreet 5 = .ok (.iload_n 1, 1) := by decide +kernel
theorem dX6_setStreet_6 : decode cX6_setStreet 6 = .ok (.invokestatic 73, 3) := by decide +kernel
theorem dX6_setStreet_9 : decode cX6_setStreet 9 = .ok (.ifCond .ne 9, 3) := by decide +kernel
theorem dX6_setStreet_12 : decode cX6_setStreet 12 = .ok (.aload_n 0, 1) := by decide +kernel
theorem dX6_setStreet_13 : decode cX6_setStreet 13 = .ok (.iconst 1, 1) := by decide +kernel
theorem dX6_setStreet_14 : decode cX6_setStreet 14 = .ok (.invokevirtual 77, 3) := by decide +kernel
theorem dX6_setStreet_17 : decode cX6_setStreet 17 = .ok (.ireturn, 1) := by decide +kernel
theorem dX6_setStreet_18 : decode cX6_setStreet 18 = .ok (.iload_n 2, 1) := by decide +kernel
theorem dX6_setStreet_19 : decode cX6_setStreet 19 = .ok (.iconst 0, 1) := by decide +kernel
theorem dX6_setStreet_20 : decode cX6_setStreet 20 = .ok (.bipush 50, 2) := by decide +kernel
theorem dX6_setStreet_22 : decode cX6_setStreet 22 = .ok (.invokestatic 66, 3) := by decide +kernel
theorem dX6_setStreet_25 : decode cX6_setStreet 25 = .ok (.ifCond .ne 9, 3) := by decide +kernel
theorem dX6_setStreet_28 : decode cX6_setStreet 28 = .ok (.aload_n 0, 1) := by decide +kernel
theorem dX6_setStreet_29 : decode cX6_setStreet 29 = .ok (.iconst 2, 1) := by decide +kernel
theorem dX6_setStreet_30 : decode cX6_setStreet 30 = .ok (.invokevirtual 77, 3) := by decide +kernel
theorem dX6_setStreet_33 : decode cX6_setStreet 33 = .ok (.ireturn, 1) := by decide +kernel
theorem dX6_setStreet_34 : decode cX6_setStreet 34 = .ok (.aload_n 0, 1) := by decide +kernel
theorem dX6_setStreet_35 : decode cX6_setStreet 35 = .ok (.getfield 13, 3) := by decide +kernel
theorem dX6_setStreet_38 : decode cX6_setStreet 38 = .ok (.iload_n 1, 1) := by decide +kernel
theorem dX6_setStreet_39 : decode cX6_setStreet 39 = .ok (.iaload, 1) := by decide +kernel
theorem dX6_setStreet_40 : decode cX6_setStreet 40 = .ok (.istore 4, 2) := by decide +kernel
theorem dX6_setStreet_42 : decode cX6_setStreet 42 = .ok (.aload_n 0, 1) := by decide +kernel
theorem dX6_setStreet_43 : decode cX6_setStreet 43 = .ok (.getfield 13, 3) := by decide +kernel
theorem dX6_setStreet_46 : decode cX6_setStreet 46 = .ok (.iload_n 1, 1) := by decide +kernel
theorem dX6_setStreet_47 : decode cX6_setStreet 47 = .ok (.iload_n 2, 1) := by decide +kernel
theorem dX6_setStreet_48 : decode cX6_setStreet 48 = .ok (.iastore, 1) := by decide +kernel
theorem dX6_setStreet_49 : decode cX6_setStreet 49 = .ok (.aload_n 0, 1) := by decide +kernel
theorem dX6_setStreet_50 : decode cX6_setStreet 50 = .ok (.getfield 16, 3) := by decide +kernel
theorem dX6_setStreet_53 : decode cX6_setStreet 53 = .ok (.iload_n 1, 1) := by decide +kernel
theorem dX6_setStreet_54 : decode cX6_setStreet 54 = .ok (.iload_n 3, 1) := by decide +kernel
theorem dX6_setStreet_55 : decode cX6_setStreet 55 = .ok (.bastore, 1) := by decide +kernel
theorem dX6_setStreet_56 : decode cX6_setStreet 56 = .ok (.iload 4, 2) := by decide +kernel
theorem dX6_setStreet_58 : decode cX6_setStreet 58 = .ok (.ireturn, 1) := by decide +kernel
theorem dX6_middle_0 : decode cX6_middle 0 = .ok (.aload_n 0, 1) := by decide +kernel
theorem dX6_middle_1 : decode cX6_middle 1 = .ok (.getfield 20, 3) := by decide +kernel
theorem dX6_middle_4 : decode cX6_middle 4 = .ok (.iconst 3, 1) := by decide +kernel
theorem dX6_middle_5 : decode cX6_middle 5 = .ok (.iload_n 1, 1) := by decide +kernel
theorem dX6_middle_6 : decode cX6_middle 6 = .ok (.imul, 1) := by decide +kernel
theorem dX6_middle_7 : decode cX6_middle 7 = .ok (.iaload, 1) := by decide +kernel
theorem dX6_middle_8 : decode cX6_middle 8 = .ok (.istore_n 2, 1) := by decide +kernel
theorem dX6_middle_9 : decode cX6_middle 9 = .ok (.aload_n 0, 1) := by decide +kernel
theorem dX6_middle_10 : decode cX6_middle 10 = .ok (.getfield 20, 3) := by decide +kernel
theorem dX6_middle_13 : decode cX6_middle 13 = .ok (.iconst 3, 1) := by decide +kernel
theorem dX6_middle_14 : decode cX6_middle 14 = .ok (.iload_n 1, 1) := by decide +kernel
theorem dX6_middle_15 : decode cX6_middle 15 = .ok (.imul, 1) := by decide +kernel
theorem dX6_middle_16 : decode cX6_middle 16 = .ok (.iconst 1, 1) := by decide +kernel
theorem dX6_middle_17 : decode cX6_middle 17 = .ok (.iadd, 1) := by decide +kernel
theorem dX6_middle_18 : decode cX6_middle 18 = .ok (.iaload, 1) := by decide +kernel
theorem dX6_middle_19 : decode cX6_middle 19 = .ok (.istore_n 3, 1) := by decide +kernel
theorem dX6_middle_20 : decode cX6_middle 20 = .ok (.aload_n 0, 1) := by decide +kernel
theorem dX6_middle_21 : decode cX6_middle 21 = .ok (.getfield 20, 3) := by decide +kernel
theorem dX6_middle_24 : decode cX6_middle 24 = .ok (.iconst 3, 1) := by decide +kernel
theorem dX6_middle_25 : decode cX6_middle 25 = .ok (.iload_n 1, 1) := by decide +kernel
theorem dX6_middle_26 : decode cX6_middle 26 = .ok (.imul, 1) := by decide +kernel
theorem dX6_middle_27 : decode cX6_middle 27 = .ok (.iconst 2, 1) := by decide +kernel
theorem dX6_middle_28 : decode cX6_middle 28 = .ok (.iadd, 1) := by decide +kernel
theorem dX6_middle_29 : decode cX6_middle 29 = .ok (.iaload, 1) := by decide +kernel
theorem dX6_middle_30 : decode cX6_middle 30 = .ok (.istore 4, 2) := by decide +kernel
theorem dX6_middle_32 : decode cX6_middle 32 = .ok (.iload_n 2, 1) := by decide +kernel
theorem dX6_middle_33 : decode cX6_middle 33 = .ok (.iload_n 3, 1) := by decide +kernel
theorem dX6_middle_34 : decode cX6_middle 34 = .ok (.if_icmp .ge 7, 3) := by decide +kernel
theorem dX6_middle_37 : decode cX6_middle 37 = .ok (.iload_n 2, 1) := by decide +kernel
theorem dX6_middle_38 : decode cX6_middle 38 = .ok (.goto 4, 3) := by decide +kernel
theorem dX6_middle_41 : decode cX6_middle 41 = .ok (.iload_n 3, 1) := by decide +kernel
theorem dX6_middle_42 : decode cX6_middle 42 = .ok (.istore 5, 2) := by decide +kernel
theorem dX6_middle_44 : decode cX6_middle 44 = .ok (.iload_n 2, 1) := by decide +kernel
theorem dX6_middle_45 : decode cX6_middle 45 = .ok (.iload_n 3, 1) := by decide +kernel
theorem dX6_middle_46 : decode cX6_middle 46 = .ok (.if_icmp .ge 7, 3) := by decide +kernel
theorem dX6_middle_49 : decode cX6_middle 49 = .ok (.iload_n 3, 1) := by decide +kernel
theorem dX6_middle_50 : decode cX6_middle 50 = .ok (.goto 4, 3) := by decide +kernel
theorem dX6_middle_53 : decode cX6_middle 53 = .ok (.iload_n 2, 1) := by decide +kernel
theorem dX6_middle_54 : decode cX6_middle 54 = .ok (.istore 6, 2) := by decide +kernel
theorem dX6_middle_56 : decode cX6_middle 56 = .ok (.iload 4, 2) := by decide +kernel
theorem dX6_middle_58 : decode cX6_middle 58 = .ok (.iload 5, 2) := by decide +kernel
theorem dX6_middle_60 : decode cX6_middle 60 = .ok (.if_icmp .ge 8, 3) := by decide +kernel
theorem dX6_middle_63 : decode cX6_middle 63 = .ok (.iload 5, 2) := by decide +kernel
theorem dX6_middle_65 : decode cX6_middle 65 = .ok (.goto 17, 3) := by decide +kernel
theorem dX6_middle_68 : decode cX6_middle 68 = .ok (.iload 4, 2) := by decide +kernel
theorem dX6_middle_70 : decode cX6_middle 70 = .ok (.iload 6, 2) := by decide +kernel
theorem dX6_middle_72 : decode cX6_middle 72 = .ok (.if_icmp .le 8, 3) := by decide +kernel
theorem dX6_middle_75 : decode cX6_middle 75 = .ok (.iload 6, 2) := by decide +kernel
theorem dX6_middle_77 : decode cX6_middle 77 = .ok (.goto 5, 3) := by decide +kernel
theorem dX6_middle_80 : decode cX6_middle 80 = .ok (.iload 4, 2) := by decide +kernel
theorem dX6_middle_82 : decode cX6_middle 82 = .ok (.ireturn, 1) := by decide +kernel
theorem dX6_vote_0 : decode cX6_vote 0 = .ok (.aload_n 0, 1) := by decide +kernel
theorem dX6_vote_1 : decode cX6_vote 1 = .ok (.iconst 0, 1) := by decide +kernel
theorem dX6_vote_2 : decode cX6_vote 2 = .ok (.putfield 62, 3) := by decide +kernel
theorem dX6_vote_5 : decode cX6_vote 5 = .ok (.iload_n 1, 1) := by decide +kernel
theorem dX6_vote_6 : decode cX6_vote 6 = .ok (.invokestatic 73, 3) := by decide +kernel
theorem dX6_vote_9 : decode cX6_vote 9 = .ok (.ifCond .eq 12, 3) := by decide +kernel
theorem dX6_vote_12 : decode cX6_vote 12 = .ok (.iload_n 2, 1) := by decide +kernel
theorem dX6_vote_13 : decode cX6_vote 13 = .ok (.iconst 0, 1) := by decide +kernel
theorem dX6_vote_14 : decode cX6_vote 14 = .ok (.iconst 2, 1) := by decide +kernel
theorem dX6_vote_15 : decode cX6_vote 15 = .ok (.invokestatic 66, 3) := by decide +kernel
theorem dX6_vote_18 : decode cX6_vote 18 = .ok (.ifCond .ne 9, 3) := by decide +kernel
theorem dX6_vote_21 : decode cX6_vote 21 = .ok (.aload_n 0, 1) := by decide +kernel
theorem dX6_vote_22 : decode cX6_vote 22 = .ok (.iconst 1, 1) := by decide +kernel
theorem dX6_vote_23 : decode cX6_vote 23 = .ok (.invokevirtual 77, 3) := by decide +kernel
theorem dX6_vote_26 : decode cX6_vote 26 = .ok (.ireturn, 1) := by decide +kernel
theorem dX6_vote_27 : decode cX6_vote 27 = .ok (.iload_n 3, 1) := by decide +kernel
theorem dX6_vote_28 : decode cX6_vote 28 = .ok (.iconst 1, 1) := by decide +kernel
theorem dX6_vote_29 : decode cX6_vote 29 = .ok (.bipush 30, 2) := by decide +kernel
theorem dX6_vote_31 : decode cX6_vote 31 = .ok (.invokestatic 66, 3) := by decide +kernel
theorem dX6_vote_34 : decode cX6_vote 34 = .ok (.ifCond .ne 9, 3) := by decide +kernel
theorem dX6_vote_37 : decode cX6_vote 37 = .ok (.aload_n 0, 1) := by decide +kernel
theorem dX6_vote_38 : decode cX6_vote 38 = .ok (.iconst 2, 1) := by decide +kernel
theorem dX6_vote_39 : decode cX6_vote 39 = .ok (.invokevirtual 77, 3) := by decide +kernel
theorem dX6_vote_42 : decode cX6_vote 42 = .ok (.ireturn, 1) := by decide +kernel
theorem dX6_vote_43 : decode cX6_vote 43 = .ok (.aload_n 0, 1) := by decide +kernel
theorem dX6_vote_44 : decode cX6_vote 44 = .ok (.getfield 20, 3) := by decide +kernel
theorem dX6_vote_47 : decode cX6_vote 47 = .ok (.iconst 3, 1) := by decide +kernel
theorem dX6_vote_48 : decode cX6_vote 48 = .ok (.iload_n 1, 1) := by decide +kernel
theorem dX6_vote_49 : decode cX6_vote 49 = .ok (.imul, 1) := by decide +kernel
theorem dX6_vote_50 : decode cX6_vote 50 = .ok (.iload_n 2, 1) := by decide +kernel
theorem dX6_vote_51 : decode cX6_vote 51 = .ok (.iadd, 1) := by decide +kernel
theorem dX6_vote_52 : decode cX6_vote 52 = .ok (.iload_n 3, 1) := by decide +kernel
theorem dX6_vote_53 : decode cX6_vote 53 = .ok (.iastore, 1) := by decide +kernel
theorem dX6_vote_54 : decode cX6_vote 54 = .ok (.aload_n 0, 1) := by decide +kernel
theorem dX6_vote_55 : decode cX6_vote 55 = .ok (.iload_n 1, 1) := by decide +kernel
theorem dX6_vote_56 : decode cX6_vote 56 = .ok (.invokevirtual 82, 3) := by decide +kernel
theorem dX6_vote_59 : decode cX6_vote 59 = .ok (.ireturn, 1) := by decide +kernel
theorem dX6_place_0 : decode cX6_place 0 = .ok (.aload_n 0, 1) := by decide +kernel
theorem dX6_place_1 : decode cX6_place 1 = .ok (.iconst 0, 1) := by decide +kernel
theorem dX6_place_2 : decode cX6_place 2 = .ok (.putfield 62, 3) := by decide +kernel
theorem dX6_place_5 : decode cX6_place 5 = .ok (.iload_n 1, 1) := by decide +kernel
theorem dX6_place_6 : decode cX6_place 6 = .ok (.invokestatic 85, 3) := by decide +kernel
theorem dX6_place_9 : decode cX6_place 9 = .ok (.ifCond .eq 10, 3) := by decide +kernel
theorem dX6_place_12 : decode cX6_place 12 = .ok (.iload_n 2, 1) := by decide +kernel
theorem dX6_place_13 : decode cX6_place 13 = .ok (.invokestatic 73, 3) := by decide +kernel
theorem dX6_place_16 : decode cX6_place 16 = .ok (.ifCond .ne 9, 3) := by decide +kernel
theorem dX6_place_19 : decode cX6_place 19 = .ok (.aload_n 0, 1) := by decide +kernel
theorem dX6_place_20 : decode cX6_place 20 = .ok (.iconst 1, 1) := by decide +kernel
theorem dX6_place_21 : decode cX6_place 21 = .ok (.invokevirtual 77, 3) := by decide +kernel
theorem dX6_place_24 : decode cX6_place 24 = .ok (.ireturn, 1) := by decide +kernel
theorem dX6_place_25 : decode cX6_place 25 = .ok (.aload_n 0, 1) := by decide +kernel
theorem dX6_place_26 : decode cX6_place 26 = .ok (.getfield 29, 3) := by decide +kernel
theorem dX6_place_29 : decode cX6_place 29 = .ok (.iload_n 1, 1) := by decide +kernel
theorem dX6_place_30 : decode cX6_place 30 = .ok (.baload, 1) := by decide +kernel
theorem dX6_place_31 : decode cX6_place 31 = .ok (.ifCond .eq 9, 3) := by decide +kernel
theorem dX6_place_34 : decode cX6_place 34 = .ok (.aload_n 0, 1) := by decide +kernel
theorem dX6_place_35 : decode cX6_place 35 = .ok (.iconst 2, 1) := by decide +kernel
theorem dX6_place_36 : decode cX6_place 36 = .ok (.invokevirtual 77, 3) := by decide +kernel
theorem dX6_place_39 : decode cX6_place 39 = .ok (.ireturn, 1) := by decide +kernel
theorem dX6_place_40 : decode cX6_place 40 = .ok (.aload_n 0, 1) := by decide +kernel
theorem dX6_place_41 : decode cX6_place 41 = .ok (.getfield 23, 3) := by decide +kernel
theorem dX6_place_44 : decode cX6_place 44 = .ok (.iload_n 1, 1) := by decide +kernel
theorem dX6_place_45 : decode cX6_place 45 = .ok (.iaload, 1) := by decide +kernel
theorem dX6_place_46 : decode cX6_place 46 = .ok (.istore_n 3, 1) := by decide +kernel
theorem dX6_place_47 : decode cX6_place 47 = .ok (.aload_n 0, 1) := by decide +kernel
theorem dX6_place_48 : decode cX6_place 48 = .ok (.getfield 23, 3) := by decide +kernel
theorem dX6_place_51 : decode cX6_place 51 = .ok (.iload_n 1, 1) := by decide +kernel
theorem dX6_place_52 : decode cX6_place 52 = .ok (.iload_n 2, 1) := by decide +kernel
theorem dX6_place_53 : decode cX6_place 53 = .ok (.iastore, 1) := by decide +kernel
theorem dX6_place_54 : decode cX6_place 54 = .ok (.iload_n 3, 1) := by decide +kernel
theorem dX6_place_55 : decode cX6_place 55 = .ok (.ireturn, 1) := by decide +kernel
theorem dX6_ask_0 : decode cX6_ask 0 = .ok (.aload_n 0, 1) := by decide +kernel
theorem dX6_ask_1 : decode cX6_ask 1 = .ok (.iconst 0, 1) := by decide +kernel
theorem dX6_ask_2 : decode cX6_ask 2 = .ok (.putfield 62, 3) := by decide +kernel
theorem dX6_ask_5 : decode cX6_ask 5 = .ok (.iload_n 1, 1) := by decide +kernel
theorem dX6_ask_6 : decode cX6_ask 6 = .ok (.invokestatic 73, 3) := by decide +kernel
theorem dX6_ask_9 : decode cX6_ask 9 = .ok (.ifCond .eq 10, 3) := by decide +kernel
theorem dX6_ask_12 : decode cX6_ask 12 = .ok (.iload_n 2, 1) := by decide +kernel
theorem dX6_ask_13 : decode cX6_ask 13 = .ok (.invokestatic 73, 3) := by decide +kernel
theorem dX6_ask_16 : decode cX6_ask 16 = .ok (.ifCond .ne 9, 3) := by decide +kernel
theorem dX6_ask_19 : decode cX6_ask 19 = .ok (.aload_n 0, 1) := by decide +kernel
theorem dX6_ask_20 : decode cX6_ask 20 = .ok (.iconst 1, 1) := by decide +kernel
theorem dX6_ask_21 : decode cX6_ask 21 = .ok (.invokevirtual 77, 3) := by decide +kernel
theorem dX6_ask_24 : decode cX6_ask 24 = .ok (.ireturn, 1) := by decide +kernel
theorem dX6_ask_25 : decode cX6_ask 25 = .ok (.iload_n 1, 1) := by decide +kernel
theorem dX6_ask_26 : decode cX6_ask 26 = .ok (.iload_n 2, 1) := by decide +kernel
theorem dX6_ask_27 : decode cX6_ask 27 = .ok (.if_icmp .ne 9, 3) := by decide +kernel
theorem dX6_ask_30 : decode cX6_ask 30 = .ok (.aload_n 0, 1) := by decide +kernel
theorem dX6_ask_31 : decode cX6_ask 31 = .ok (.iconst 2, 1) := by decide +kernel
theorem dX6_ask_32 : decode cX6_ask 32 = .ok (.invokevirtual 77, 3) := by decide +kernel
theorem dX6_ask_35 : decode cX6_ask 35 = .ok (.ireturn, 1) := by decide +kernel
theorem dX6_ask_36 : decode cX6_ask 36 = .ok (.aload_n 0, 1) := by decide +kernel
theorem dX6_ask_37 : decode cX6_ask 37 = .ok (.getfield 70, 3) := by decide +kernel
theorem dX6_ask_40 : decode cX6_ask 40 = .ok (.bipush 60, 2) := by decide +kernel
theorem dX6_ask_42 : decode cX6_ask 42 = .ok (.if_icmp .ne 9, 3) := by decide +kernel
theorem dX6_ask_45 : decode cX6_ask 45 = .ok (.aload_n 0, 1) := by decide +kernel
theorem dX6_ask_46 : decode cX6_ask 46 = .ok (.iconst 3, 1) := by decide +kernel
theorem dX6_ask_47 : decode cX6_ask 47 = .ok (.invokevirtual 77, 3) := by decide +kernel
theorem dX6_ask_50 : decode cX6_ask 50 = .ok (.ireturn, 1) := by decide +kernel
theorem dX6_ask_51 : decode cX6_ask 51 = .ok (.aload_n 0, 1) := by decide +kernel
theorem dX6_ask_52 : decode cX6_ask 52 = .ok (.getfield 32, 3) := by decide +kernel
theorem dX6_ask_55 : decode cX6_ask 55 = .ok (.aload_n 0, 1) := by decide +kernel
theorem dX6_ask_56 : decode cX6_ask 56 = .ok (.getfield 70, 3) := by decide +kernel
theorem dX6_ask_59 : decode cX6_ask 59 = .ok (.iload_n 1, 1) := by decide +kernel
theorem dX6_ask_60 : decode cX6_ask 60 = .ok (.iastore, 1) := by decide +kernel
theorem dX6_ask_61 : decode cX6_ask 61 = .ok (.aload_n 0, 1) := by decide +kernel
theorem dX6_ask_62 : decode cX6_ask 62 = .ok (.getfield 35, 3) := by decide +kernel
theorem dX6_ask_65 : decode cX6_ask 65 = .ok (.aload_n 0, 1) := by decide +kernel
theorem dX6_ask_66 : decode cX6_ask 66 = .ok (.getfield 70, 3) := by decide +kernel
theorem dX6_ask_69 : decode cX6_ask 69 = .ok (.iload_n 2, 1) := by decide +kernel
theorem dX6_ask_70 : decode cX6_ask 70 = .ok (.iastore, 1) := by decide +kernel
theorem dX6_ask_71 : decode cX6_ask 71 = .ok (.aload_n 0, 1) := by decide +kernel
theorem dX6_ask_72 : decode cX6_ask 72 = .ok (.getfield 41, 3) := by decide +kernel
theorem dX6_ask_75 : decode cX6_ask 75 = .ok (.aload_n 0, 1) := by decide +kernel
theorem dX6_ask_76 : decode cX6_ask 76 = .ok (.getfield 70, 3) := by decide +kernel
theorem dX6_ask_79 : decode cX6_ask 79 = .ok (.iconst (-1), 1) := by decide +kernel
theorem dX6_ask_80 : decode cX6_ask 80 = .ok (.iastore, 1) := by decide +kernel
theorem dX6_ask_81 : decode cX6_ask 81 = .ok (.aload_n 0, 1) := by decide +kernel
theorem dX6_ask_82 : decode cX6_ask 82 = .ok (.dup, 1) := by decide +kernel
theorem dX6_ask_83 : decode cX6_ask 83 = .ok (.getfield 70, 3) := by decide +kernel
theorem dX6_ask_86 : decode cX6_ask 86 = .ok (.iconst 1, 1) := by decide +kernel
theorem dX6_ask_87 : decode cX6_ask 87 = .ok (.iadd, 1) := by decide +kernel
theorem dX6_ask_88 : decode cX6_ask 88 = .ok (.putfield 70, 3) := by decide +kernel
theorem dX6_ask_91 : decode cX6_ask 91 = .ok (.aload_n 0, 1) := by decide +kernel
theorem dX6_ask_92 : decode cX6_ask 92 = .ok (.getfield 70, 3) := by decide +kernel
theorem dX6_ask_95 : decode cX6_ask 95 = .ok (.iconst 1, 1) := by decide +kernel
theorem dX6_ask_96 : decode cX6_ask 96 = .ok (.isub, 1) := by decide +kernel
theorem dX6_ask_97 : decode cX6_ask 97 = .ok (.ireturn, 1) := by decide +kernel
theorem dX6_length_0 : decode cX6_length 0 = .ok (.iload_n 1, 1) := by decide +kernel
theorem dX6_length_1 : decode cX6_length 1 = .ok (.iload_n 0, 1) := by decide +kernel
theorem dX6_length_2 : decode cX6_length 2 = .ok (.isub, 1) := by decide +kernel
theorem dX6_length_3 : decode cX6_length 3 = .ok (.bipush 8, 2) := by decide +kernel
theorem dX6_length_5 : decode cX6_length 5 = .ok (.iadd, 1) := by decide +kernel
theorem dX6_length_6 : decode cX6_length 6 = .ok (.bipush 8, 2) := by decide +kernel
theorem dX6_length_8 : decode cX6_length 8 = .ok (.irem, 1) := by decide +kernel
theorem dX6_length_9 : decode cX6_length 9 = .ok (.istore_n 2, 1) := by decide +kernel
theorem dX6_length_10 : decode cX6_length 10 = .ok (.iload_n 2, 1) := by decide +kernel
theorem dX6_length_11 : decode cX6_length 11 = .ok (.iconst 4, 1) := by decide +kernel
theorem dX6_length_12 : decode cX6_length 12 = .ok (.if_icmp .le 10, 3) := by decide +kernel
theorem dX6_length_15 : decode cX6_length 15 = .ok (.bipush 8, 2) := by decide +kernel
theorem dX6_length_17 : decode cX6_length 17 = .ok (.iload_n 2, 1) := by decide +kernel
theorem dX6_length_18 : decode cX6_length 18 = .ok (.isub, 1) := by decide +kernel
theorem dX6_length_19 : decode cX6_length 19 = .ok (.goto 4, 3) := by decide +kernel
theorem dX6_length_22 : decode cX6_length 22 = .ok (.iload_n 2, 1) := by decide +kernel
theorem dX6_length_23 : decode cX6_length 23 = .ok (.ireturn, 1) := by decide +kernel
theorem dX6_next_0 : decode cX6_next 0 = .ok (.iload_n 1, 1) := by decide +kernel
theorem dX6_next_1 : decode cX6_next 1 = .ok (.iload_n 0, 1) := by decide +kernel
theorem dX6_next_2 : decode cX6_next 2 = .ok (.isub, 1) := by decide +kernel
theorem dX6_next_3 : decode cX6_next 3 = .ok (.bipush 8, 2) := by decide +kernel
theorem dX6_next_5 : decode cX6_next 5 = .ok (.iadd, 1) := by decide +kernel
theorem dX6_next_6 : decode cX6_next 6 = .ok (.bipush 8, 2) := by decide +kernel
theorem dX6_next_8 : decode cX6_next 8 = .ok (.irem, 1) := by decide +kernel
theorem dX6_next_9 : decode cX6_next 9 = .ok (.istore_n 2, 1) := by decide +kernel
theorem dX6_next_10 : decode cX6_next 10 = .ok (.iload_n 2, 1) := by decide +kernel
theorem dX6_next_11 : decode cX6_next 11 = .ok (.ifCond .ne 7, 3) := by decide +kernel
theorem dX6_next_14 : decode cX6_next 14 = .ok (.iload_n 0, 1) := by decide +kernel
theorem dX6_next_15 : decode cX6_next 15 = .ok (.goto 26, 3) := by decide +kernel
theorem dX6_next_18 : decode cX6_next 18 = .ok (.iload_n 2, 1) := by decide +kernel
theorem dX6_next_19 : decode cX6_next 19 = .ok (.iconst 4, 1) := by decide +kernel
theorem dX6_next_20 : decode cX6_next 20 = .ok (.if_icmp .le 15, 3) := by decide +kernel
theorem dX6_next_23 : decode cX6_next 23 = .ok (.iload_n 0, 1) := by decide +kernel
theorem dX6_next_24 : decode cX6_next 24 = .ok (.bipush 8, 2) := by decide +kernel
theorem dX6_next_26 : decode cX6_next 26 = .ok (.iadd, 1) := by decide +kernel
theorem dX6_next_27 : decode cX6_next 27 = .ok (.iconst 1, 1) := by decide +kernel
theorem dX6_next_28 : decode cX6_next 28 = .ok (.isub, 1) := by decide +kernel
theorem dX6_next_29 : decode cX6_next 29 = .ok (.bipush 8, 2) := by decide +kernel
theorem dX6_next_31 : decode cX6_next 31 = .ok (.irem, 1) := by decide +kernel
theorem dX6_next_32 : decode cX6_next 32 = .ok (.goto 9, 3) := by decide +kernel
theorem dX6_next_35 : decode cX6_next 35 = .ok (.iload_n 0, 1) := by decide +kernel
theorem dX6_next_36 : decode cX6_next 36 = .ok (.iconst 1, 1) := by decide +kernel
theorem dX6_next_37 : decode cX6_next 37 = .ok (.iadd, 1) := by decide +kernel
theorem dX6_next_38 : decode cX6_next 38 = .ok (.bipush 8, 2) := by decide +kernel
theorem dX6_next_40 : decode cX6_next 40 = .ok (.irem, 1) := by decide +kernel
theorem dX6_next_41 : decode cX6_next 41 = .ok (.ireturn, 1) := by decide +kernel
theorem dX6_sends_0 : decode cX6_sends 0 = .ok (.iconst (-1), 1) := by decide +kernel
theorem dX6_sends_1 : decode cX6_sends 1 = .ok (.istore_n 2, 1) := by decide +kernel
theorem dX6_sends_2 : decode cX6_sends 2 = .ok (.iconst 0, 1) := by decide +kernel
theorem dX6_sends_3 : decode cX6_sends 3 = .ok (.istore_n 3, 1) := by decide +kernel
theorem dX6_sends_4 : decode cX6_sends 4 = .ok (.iload_n 3, 1) := by decide +kernel
theorem dX6_sends_5 : decode cX6_sends 5 = .ok (.iconst 4, 1) := by decide +kernel
theorem dX6_sends_6 : decode cX6_sends 6 = .ok (.if_icmp .ge 114, 3) := by decide +kernel
theorem dX6_sends_9 : decode cX6_sends 9 = .ok (.aload_n 0, 1) := by decide +kernel
theorem dX6_sends_10 : decode cX6_sends 10 = .ok (.getfield 23, 3) := by decide +kernel
theorem dX6_sends_13 : decode cX6_sends 13 = .ok (.iload_n 3, 1) := by decide +kernel
theorem dX6_sends_14 : decode cX6_sends 14 = .ok (.iaload, 1) := by decide +kernel
theorem dX6_sends_15 : decode cX6_sends 15 = .ok (.aload_n 0, 1) := by decide +kernel
theorem dX6_sends_16 : decode cX6_sends 16 = .ok (.getfield 32, 3) := by decide +kernel
theorem dX6_sends_19 : decode cX6_sends 19 = .ok (.iload_n 1, 1) := by decide +kernel
theorem dX6_sends_20 : decode cX6_sends 20 = .ok (.iaload, 1) := by decide +kernel
theorem dX6_sends_21 : decode cX6_sends 21 = .ok (.invokestatic 88, 3) := by decide +kernel
theorem dX6_sends_24 : decode cX6_sends 24 = .ok (.istore 4, 2) := by decide +kernel
theorem dX6_sends_26 : decode cX6_sends 26 = .ok (.iload_n 2, 1) := by decide +kernel
theorem dX6_sends_27 : decode cX6_sends 27 = .ok (.iconst (-1), 1) := by decide +kernel
theorem dX6_sends_28 : decode cX6_sends 28 = .ok (.if_icmp .ne 8, 3) := by decide +kernel
theorem dX6_sends_31 : decode cX6_sends 31 = .ok (.bipush 8, 2) := by decide +kernel
theorem dX6_sends_33 : decode cX6_sends 33 = .ok (.goto 18, 3) := by decide +kernel
theorem dX6_sends_36 : decode cX6_sends 36 = .ok (.aload_n 0, 1) := by decide +kernel
theorem dX6_sends_37 : decode cX6_sends 37 = .ok (.getfield 23, 3) := by decide +kernel
theorem dX6_sends_40 : decode cX6_sends 40 = .ok (.iload_n 2, 1) := by decide +kernel
theorem dX6_sends_41 : decode cX6_sends 41 = .ok (.iaload, 1) := by decide +kernel
theorem dX6_sends_42 : decode cX6_sends 42 = .ok (.aload_n 0, 1) := by decide +kernel
theorem dX6_sends_43 : decode cX6_sends 43 = .ok (.getfield 32, 3) := by decide +kernel
theorem dX6_sends_46 : decode cX6_sends 46 = .ok (.iload_n 1, 1) := by decide +kernel
theorem dX6_sends_47 : decode cX6_sends 47 = .ok (.iaload, 1) := by decide +kernel
theorem dX6_sends_48 : decode cX6_sends 48 = .ok (.invokestatic 88, 3) := by decide +kernel
theorem dX6_sends_51 : decode cX6_sends 51 = .ok (.istore 5, 2) := by decide +kernel
theorem dX6_sends_53 : decode cX6_sends 53 = .ok (.iload_n 2, 1) := by decide +kernel
theorem dX6_sends_54 : decode cX6_sends 54 = .ok (.iconst (-1), 1) := by decide +kernel
theorem dX6_sends_55 : decode cX6_sends 55 = .ok (.if_icmp .eq 32, 3) := by decide +kernel
theorem dX6_sends_58 : decode cX6_sends 58 = .ok (.iload 4, 2) := by decide +kernel
theorem dX6_sends_60 : decode cX6_sends 60 = .ok (.iload 5, 2) := by decide +kernel
theorem dX6_sends_62 : decode cX6_sends 62 = .ok (.if_icmp .lt 25, 3) := by decide +kernel
theorem dX6_sends_65 : decode cX6_sends 65 = .ok (.iload 4, 2) := by decide +kernel
theorem dX6_sends_67 : decode cX6_sends 67 = .ok (.iload 5, 2) := by decide +kernel
theorem dX6_sends_69 : decode cX6_sends 69 = .ok (.if_icmp .ne 22, 3) := by decide +kernel
theorem dX6_sends_72 : decode cX6_sends 72 = .ok (.aload_n 0, 1) := by decide +kernel
theorem dX6_sends_73 : decode cX6_sends 73 = .ok (.getfield 26, 3) := by decide +kernel
theorem dX6_sends_76 : decode cX6_sends 76 = .ok (.iload_n 3, 1) := by decide +kernel
theorem dX6_sends_77 : decode cX6_sends 77 = .ok (.iaload, 1) := by decide +kernel
theorem dX6_sends_78 : decode cX6_sends 78 = .ok (.aload_n 0, 1) := by decide +kernel
theorem dX6_sends_79 : decode cX6_sends 79 = .ok (.getfield 26, 3) := by decide +kernel
theorem dX6_sends_82 : decode cX6_sends 82 = .ok (.iload_n 2, 1) := by decide +kernel
theorem dX6_sends_83 : decode cX6_sends 83 = .ok (.iaload, 1) := by decide +kernel
theorem dX6_sends_84 : decode cX6_sends 84 = .ok (.if_icmp .le 7, 3) := by decide +kernel
theorem dX6_sends_87 : decode cX6_sends 87 = .ok (.iconst 1, 1) := by decide +kernel
theorem dX6_sends_88 : decode cX6_sends 88 = .ok (.goto 4, 3) := by decide +kernel
theorem dX6_sends_91 : decode cX6_sends 91 = .ok (.iconst 0, 1) := by decide +kernel
theorem dX6_sends_92 : decode cX6_sends 92 = .ok (.istore 6, 2) := by decide +kernel
theorem dX6_sends_94 : decode cX6_sends 94 = .ok (.aload_n 0, 1) := by decide +kernel
theorem dX6_sends_95 : decode cX6_sends 95 = .ok (.getfield 29, 3) := by decide +kernel
theorem dX6_sends_98 : decode cX6_sends 98 = .ok (.iload_n 3, 1) := by decide +kernel
theorem dX6_sends_99 : decode cX6_sends 99 = .ok (.baload, 1) := by decide +kernel
theorem dX6_sends_100 : decode cX6_sends 100 = .ok (.ifCond .ne 12, 3) := by decide +kernel
theorem dX6_sends_103 : decode cX6_sends 103 = .ok (.iload 6, 2) := by decide +kernel
theorem dX6_sends_105 : decode cX6_sends 105 = .ok (.ifCond .eq 7, 3) := by decide +kernel
theorem dX6_sends_108 : decode cX6_sends 108 = .ok (.iload_n 3, 1) := by decide +kernel
theorem dX6_sends_109 : decode cX6_sends 109 = .ok (.goto 4, 3) := by decide +kernel
theorem dX6_sends_112 : decode cX6_sends 112 = .ok (.iload_n 2, 1) := by decide +kernel
theorem dX6_sends_113 : decode cX6_sends 113 = .ok (.istore_n 2, 1) := by decide +kernel
theorem dX6_sends_114 : decode cX6_sends 114 = .ok (.iinc 3 1, 3) := by decide +kernel
theorem dX6_sends_117 : decode cX6_sends 117 = .ok (.goto (-113), 3) := by decide +kernel
theorem dX6_sends_120 : decode cX6_sends 120 = .ok (.iload_n 2, 1) := by decide +kernel
theorem dX6_sends_121 : decode cX6_sends 121 = .ok (.iconst (-1), 1) := by decide +kernel
theorem dX6_sends_122 : decode cX6_sends 122 = .ok (.if_icmp .eq 24, 3) := by decide +kernel
theorem dX6_sends_125 : decode cX6_sends 125 = .ok (.aload_n 0, 1) := by decide +kernel
theorem dX6_sends_126 : decode cX6_sends 126 = .ok (.getfield 41, 3) := by decide +kernel
theorem dX6_sends_129 : decode cX6_sends 129 = .ok (.iload_n 1, 1) := by decide +kernel
theorem dX6_sends_130 : decode cX6_sends 130 = .ok (.iload_n 2, 1) := by decide +kernel
theorem dX6_sends_131 : decode cX6_sends 131 = .ok (.iastore, 1) := by decide +kernel
theorem dX6_sends_132 : decode cX6_sends 132 = .ok (.aload_n 0, 1) := by decide +kernel
theorem dX6_sends_133 : decode cX6_sends 133 = .ok (.getfield 38, 3) := by decide +kernel
theorem dX6_sends_136 : decode cX6_sends 136 = .ok (.iload_n 1, 1) := by decide +kernel
theorem dX6_sends_137 : decode cX6_sends 137 = .ok (.iconst 1, 1) := by decide +kernel
theorem dX6_sends_138 : decode cX6_sends 138 = .ok (.iastore, 1) := by decide +kernel
theorem dX6_sends_139 : decode cX6_sends 139 = .ok (.aload_n 0, 1) := by decide +kernel
theorem dX6_sends_140 : decode cX6_sends 140 = .ok (.getfield 29, 3) := by decide +kernel
theorem dX6_sends_143 : decode cX6_sends 143 = .ok (.iload_n 2, 1) := by decide +kernel
theorem dX6_sends_144 : decode cX6_sends 144 = .ok (.iconst 1, 1) := by decide +kernel
theorem dX6_sends_145 : decode cX6_sends 145 = .ok (.bastore, 1) := by decide +kernel
theorem dX6_sends_146 : decode cX6_sends 146 = .ok (.return_, 1) := by decide +kernel
theorem dX6_isTaken_0 : decode cX6_isTaken 0 = .ok (.iconst 0, 1) := by decide +kernel
theorem dX6_isTaken_1 : decode cX6_isTaken 1 = .ok (.istore 4, 2) := by decide +kernel
theorem dX6_isTaken_3 : decode cX6_isTaken 3 = .ok (.iconst 0, 1) := by decide +kernel
theorem dX6_isTaken_4 : decode cX6_isTaken 4 = .ok (.istore 5, 2) := by decide +kernel
theorem dX6_isTaken_6 : decode cX6_isTaken 6 = .ok (.iload 5, 2) := by decide +kernel
theorem dX6_isTaken_8 : decode cX6_isTaken 8 = .ok (.aload_n 0, 1) := by decide +kernel
theorem dX6_isTaken_9 : decode cX6_isTaken 9 = .ok (.getfield 92, 3) := by decide +kernel
theorem dX6_isTaken_12 : decode cX6_isTaken 12 = .ok (.if_icmp .ge 68, 3) := by decide +kernel
theorem dX6_isTaken_15 : decode cX6_isTaken 15 = .ok (.iload 4, 2) := by decide +kernel
theorem dX6_isTaken_17 : decode cX6_isTaken 17 = .ok (.ifCond .ne 50, 3) := by decide +kernel
theorem dX6_isTaken_20 : decode cX6_isTaken 20 = .ok (.aload_n 0, 1) := by decide +kernel
theorem dX6_isTaken_21 : decode cX6_isTaken 21 = .ok (.getfield 50, 3) := by decide +kernel
theorem dX6_isTaken_24 : decode cX6_isTaken 24 = .ok (.iload 5, 2) := by decide +kernel
theorem dX6_isTaken_26 : decode cX6_isTaken 26 = .ok (.iaload, 1) := by decide +kernel
theorem dX6_isTaken_27 : decode cX6_isTaken 27 = .ok (.iload_n 1, 1) := by decide +kernel
theorem dX6_isTaken_28 : decode cX6_isTaken 28 = .ok (.if_icmp .ne 43, 3) := by decide +kernel
theorem dX6_isTaken_31 : decode cX6_isTaken 31 = .ok (.aload_n 0, 1) := by decide +kernel
theorem dX6_isTaken_32 : decode cX6_isTaken 32 = .ok (.getfield 53, 3) := by decide +kernel
theorem dX6_isTaken_35 : decode cX6_isTaken 35 = .ok (.iload 5, 2) := by decide +kernel
theorem dX6_isTaken_37 : decode cX6_isTaken 37 = .ok (.iaload, 1) := by decide +kernel
theorem dX6_isTaken_38 : decode cX6_isTaken 38 = .ok (.iload_n 2, 1) := by decide +kernel
theorem dX6_isTaken_39 : decode cX6_isTaken 39 = .ok (.if_icmp .ne 32, 3) := by decide +kernel
theorem dX6_isTaken_42 : decode cX6_isTaken 42 = .ok (.aload_n 0, 1) := by decide +kernel
theorem dX6_isTaken_43 : decode cX6_isTaken 43 = .ok (.getfield 56, 3) := by decide +kernel
theorem dX6_isTaken_46 : decode cX6_isTaken 46 = .ok (.iload 5, 2) := by decide +kernel
theorem dX6_isTaken_48 : decode cX6_isTaken 48 = .ok (.iaload, 1) := by decide +kernel
theorem dX6_isTaken_49 : decode cX6_isTaken 49 = .ok (.iload_n 3, 1) := by decide +kernel
theorem dX6_isTaken_50 : decode cX6_isTaken 50 = .ok (.if_icmp .ne 21, 3) := by decide +kernel
theorem dX6_isTaken_53 : decode cX6_isTaken 53 = .ok (.aload_n 0, 1) := by decide +kernel
theorem dX6_isTaken_54 : decode cX6_isTaken 54 = .ok (.getfield 95, 3) := by decide +kernel
theorem dX6_isTaken_57 : decode cX6_isTaken 57 = .ok (.aload_n 0, 1) := by decide +kernel
theorem dX6_isTaken_58 : decode cX6_isTaken 58 = .ok (.getfield 59, 3) := by decide +kernel
theorem dX6_isTaken_61 : decode cX6_isTaken 61 = .ok (.iload 5, 2) := by decide +kernel
theorem dX6_isTaken_63 : decode cX6_isTaken 63 = .ok (.iaload, 1) := by decide +kernel
theorem dX6_isTaken_64 : decode cX6_isTaken 64 = .ok (.if_icmp .ge 7, 3) := by decide +kernel
theorem dX6_isTaken_67 : decode cX6_isTaken 67 = .ok (.iconst 1, 1) := by decide +kernel
theorem dX6_isTaken_68 : decode cX6_isTaken 68 = .ok (.goto 4, 3) := by decide +kernel
theorem dX6_isTaken_71 : decode cX6_isTaken 71 = .ok (.iconst 0, 1) := by decide +kernel
theorem dX6_isTaken_72 : decode cX6_isTaken 72 = .ok (.istore 4, 2) := by decide +kernel
theorem dX6_isTaken_74 : decode cX6_isTaken 74 = .ok (.iinc 5 1, 3) := by decide +kernel
theorem dX6_isTaken_77 : decode cX6_isTaken 77 = .ok (.goto (-71), 3) := by decide +kernel
theorem dX6_isTaken_80 : decode cX6_isTaken 80 = .ok (.iload 4, 2) := by decide +kernel
theorem dX6_isTaken_82 : decode cX6_isTaken 82 = .ok (.ireturn, 1) := by decide +kernel
theorem dX6_takes_0 : decode cX6_takes 0 = .ok (.aload_n 0, 1) := by decide +kernel
theorem dX6_takes_1 : decode cX6_takes 1 = .ok (.getfield 16, 3) := by decide +kernel
theorem dX6_takes_4 : decode cX6_takes 4 = .ok (.iload_n 1, 1) := by decide +kernel
theorem dX6_takes_5 : decode cX6_takes 5 = .ok (.baload, 1) := by decide +kernel
theorem dX6_takes_6 : decode cX6_takes 6 = .ok (.ifCond .eq 88, 3) := by decide +kernel
theorem dX6_takes_9 : decode cX6_takes 9 = .ok (.aload_n 0, 1) := by decide +kernel
theorem dX6_takes_10 : decode cX6_takes 10 = .ok (.getfield 92, 3) := by decide +kernel
theorem dX6_takes_13 : decode cX6_takes 13 = .ok (.sipush 300, 3) := by decide +kernel
theorem dX6_takes_16 : decode cX6_takes 16 = .ok (.if_icmp .ge 78, 3) := by decide +kernel
theorem dX6_takes_19 : decode cX6_takes 19 = .ok (.aload_n 0, 1) := by decide +kernel
theorem dX6_takes_20 : decode cX6_takes 20 = .ok (.iload_n 1, 1) := by decide +kernel
theorem dX6_takes_21 : decode cX6_takes 21 = .ok (.iload_n 2, 1) := by decide +kernel
theorem dX6_takes_22 : decode cX6_takes 22 = .ok (.aload_n 0, 1) := by decide +kernel
theorem dX6_takes_23 : decode cX6_takes 23 = .ok (.getfield 95, 3) := by decide +kernel
theorem dX6_takes_26 : decode cX6_takes 26 = .ok (.invokevirtual 98, 3) := by decide +kernel
theorem dX6_takes_29 : decode cX6_takes 29 = .ok (.ifCond .ne 65, 3) := by decide +kernel
theorem dX6_takes_32 : decode cX6_takes 32 = .ok (.aload_n 0, 1) := by decide +kernel
theorem dX6_takes_33 : decode cX6_takes 33 = .ok (.getfield 50, 3) := by decide +kernel
theorem dX6_takes_36 : decode cX6_takes 36 = .ok (.aload_n 0, 1) := by decide +kernel
theorem dX6_takes_37 : decode cX6_takes 37 = .ok (.getfield 92, 3) := by decide +kernel
theorem dX6_takes_40 : decode cX6_takes 40 = .ok (.iload_n 1, 1) := by decide +kernel
theorem dX6_takes_41 : decode cX6_takes 41 = .ok (.iastore, 1) := by decide +kernel
theorem dX6_takes_42 : decode cX6_takes 42 = .ok (.aload_n 0, 1) := by decide +kernel
theorem dX6_takes_43 : decode cX6_takes 43 = .ok (.getfield 53, 3) := by decide +kernel
theorem dX6_takes_46 : decode cX6_takes 46 = .ok (.aload_n 0, 1) := by decide +kernel
theorem dX6_takes_47 : decode cX6_takes 47 = .ok (.getfield 92, 3) := by decide +kernel
theorem dX6_takes_50 : decode cX6_takes 50 = .ok (.iload_n 2, 1) := by decide +kernel
theorem dX6_takes_51 : decode cX6_takes 51 = .ok (.iastore, 1) := by decide +kernel
theorem dX6_takes_52 : decode cX6_takes 52 = .ok (.aload_n 0, 1) := by decide +kernel
theorem dX6_takes_53 : decode cX6_takes 53 = .ok (.getfield 56, 3) := by decide +kernel
theorem dX6_takes_56 : decode cX6_takes 56 = .ok (.aload_n 0, 1) := by decide +kernel
theorem dX6_takes_57 : decode cX6_takes 57 = .ok (.getfield 92, 3) := by decide +kernel
theorem dX6_takes_60 : decode cX6_takes 60 = .ok (.aload_n 0, 1) := by decide +kernel
theorem dX6_takes_61 : decode cX6_takes 61 = .ok (.getfield 95, 3) := by decide +kernel
theorem dX6_takes_64 : decode cX6_takes 64 = .ok (.iastore, 1) := by decide +kernel
theorem dX6_takes_65 : decode cX6_takes 65 = .ok (.aload_n 0, 1) := by decide +kernel
theorem dX6_takes_66 : decode cX6_takes 66 = .ok (.getfield 59, 3) := by decide +kernel
theorem dX6_takes_69 : decode cX6_takes 69 = .ok (.aload_n 0, 1) := by decide +kernel
theorem dX6_takes_70 : decode cX6_takes 70 = .ok (.getfield 92, 3) := by decide +kernel
theorem dX6_takes_73 : decode cX6_takes 73 = .ok (.aload_n 0, 1) := by decide +kernel
theorem dX6_takes_74 : decode cX6_takes 74 = .ok (.getfield 95, 3) := by decide +kernel
theorem dX6_takes_77 : decode cX6_takes 77 = .ok (.aload_n 0, 1) := by decide +kernel
theorem dX6_takes_78 : decode cX6_takes 78 = .ok (.iload_n 1, 1) := by decide +kernel
theorem dX6_takes_79 : decode cX6_takes 79 = .ok (.invokevirtual 82, 3) := by decide +kernel
theorem dX6_takes_82 : decode cX6_takes 82 = .ok (.iadd, 1) := by decide +kernel
theorem dX6_takes_83 : decode cX6_takes 83 = .ok (.iastore, 1) := by decide +kernel
theorem dX6_takes_84 : decode cX6_takes 84 = .ok (.aload_n 0, 1) := by decide +kernel
theorem dX6_takes_85 : decode cX6_takes 85 = .ok (.dup, 1) := by decide +kernel
theorem dX6_takes_86 : decode cX6_takes 86 = .ok (.getfield 92, 3) := by decide +kernel
theorem dX6_takes_89 : decode cX6_takes 89 = .ok (.iconst 1, 1) := by decide +kernel
theorem dX6_takes_90 : decode cX6_takes 90 = .ok (.iadd, 1) := by decide +kernel
theorem dX6_takes_91 : decode cX6_takes 91 = .ok (.putfield 92, 3) := by decide +kernel
theorem dX6_takes_94 : decode cX6_takes 94 = .ok (.return_, 1) := by decide +kernel
theorem dX6_goes_0 : decode cX6_goes 0 = .ok (.aload_n 0, 1) := by decide +kernel
theorem dX6_goes_1 : decode cX6_goes 1 = .ok (.getfield 41, 3) := by decide +kernel
theorem dX6_goes_4 : decode cX6_goes 4 = .ok (.iload_n 1, 1) := by decide +kernel
theorem dX6_goes_5 : decode cX6_goes 5 = .ok (.iaload, 1) := by decide +kernel
theorem dX6_goes_6 : decode cX6_goes 6 = .ok (.istore_n 2, 1) := by decide +kernel
theorem dX6_goes_7 : decode cX6_goes 7 = .ok (.aload_n 0, 1) := by decide +kernel
theorem dX6_goes_8 : decode cX6_goes 8 = .ok (.getfield 38, 3) := by decide +kernel
theorem dX6_goes_11 : decode cX6_goes 11 = .ok (.iload_n 1, 1) := by decide +kernel
theorem dX6_goes_12 : decode cX6_goes 12 = .ok (.iaload, 1) := by decide +kernel
theorem dX6_goes_13 : decode cX6_goes 13 = .ok (.iconst 2, 1) := by decide +kernel
theorem dX6_goes_14 : decode cX6_goes 14 = .ok (.if_icmp .ne 27, 3) := by decide +kernel
theorem dX6_goes_17 : decode cX6_goes 17 = .ok (.aload_n 0, 1) := by decide +kernel
theorem dX6_goes_18 : decode cX6_goes 18 = .ok (.getfield 23, 3) := by decide +kernel
theorem dX6_goes_21 : decode cX6_goes 21 = .ok (.iload_n 2, 1) := by decide +kernel
theorem dX6_goes_22 : decode cX6_goes 22 = .ok (.aload_n 0, 1) := by decide +kernel
theorem dX6_goes_23 : decode cX6_goes 23 = .ok (.getfield 23, 3) := by decide +kernel
theorem dX6_goes_26 : decode cX6_goes 26 = .ok (.iload_n 2, 1) := by decide +kernel
theorem dX6_goes_27 : decode cX6_goes 27 = .ok (.iaload, 1) := by decide +kernel
theorem dX6_goes_28 : decode cX6_goes 28 = .ok (.aload_n 0, 1) := by decide +kernel
theorem dX6_goes_29 : decode cX6_goes 29 = .ok (.getfield 35, 3) := by decide +kernel
theorem dX6_goes_32 : decode cX6_goes 32 = .ok (.iload_n 1, 1) := by decide +kernel
theorem dX6_goes_33 : decode cX6_goes 33 = .ok (.iaload, 1) := by decide +kernel
theorem dX6_goes_34 : decode cX6_goes 34 = .ok (.invokestatic 101, 3) := by decide +kernel
theorem dX6_goes_37 : decode cX6_goes 37 = .ok (.iastore, 1) := by decide +kernel
theorem dX6_goes_38 : decode cX6_goes 38 = .ok (.goto 50, 3) := by decide +kernel
theorem dX6_goes_41 : decode cX6_goes 41 = .ok (.aload_n 0, 1) := by decide +kernel
theorem dX6_goes_42 : decode cX6_goes 42 = .ok (.getfield 23, 3) := by decide +kernel
theorem dX6_goes_45 : decode cX6_goes 45 = .ok (.iload_n 2, 1) := by decide +kernel
theorem dX6_goes_46 : decode cX6_goes 46 = .ok (.aload_n 0, 1) := by decide +kernel
theorem dX6_goes_47 : decode cX6_goes 47 = .ok (.getfield 23, 3) := by decide +kernel
theorem dX6_goes_50 : decode cX6_goes 50 = .ok (.iload_n 2, 1) := by decide +kernel
theorem dX6_goes_51 : decode cX6_goes 51 = .ok (.iaload, 1) := by decide +kernel
theorem dX6_goes_52 : decode cX6_goes 52 = .ok (.aload_n 0, 1) := by decide +kernel
theorem dX6_goes_53 : decode cX6_goes 53 = .ok (.getfield 32, 3) := by decide +kernel
theorem dX6_goes_56 : decode cX6_goes 56 = .ok (.iload_n 1, 1) := by decide +kernel
theorem dX6_goes_57 : decode cX6_goes 57 = .ok (.iaload, 1) := by decide +kernel
theorem dX6_goes_58 : decode cX6_goes 58 = .ok (.invokestatic 101, 3) := by decide +kernel
theorem dX6_goes_61 : decode cX6_goes 61 = .ok (.iastore, 1) := by decide +kernel
theorem dX6_goes_62 : decode cX6_goes 62 = .ok (.aload_n 0, 1) := by decide +kernel
theorem dX6_goes_63 : decode cX6_goes 63 = .ok (.getfield 38, 3) := by decide +kernel
theorem dX6_goes_66 : decode cX6_goes 66 = .ok (.iload_n 1, 1) := by decide +kernel
theorem dX6_goes_67 : decode cX6_goes 67 = .ok (.aload_n 0, 1) := by decide +kernel
theorem dX6_goes_68 : decode cX6_goes 68 = .ok (.getfield 23, 3) := by decide +kernel
theorem dX6_goes_71 : decode cX6_goes 71 = .ok (.iload_n 2, 1) := by decide +kernel
theorem dX6_goes_72 : decode cX6_goes 72 = .ok (.iaload, 1) := by decide +kernel
theorem dX6_goes_73 : decode cX6_goes 73 = .ok (.aload_n 0, 1) := by decide +kernel
theorem dX6_goes_74 : decode cX6_goes 74 = .ok (.getfield 32, 3) := by decide +kernel
theorem dX6_goes_77 : decode cX6_goes 77 = .ok (.iload_n 1, 1) := by decide +kernel
theorem dX6_goes_78 : decode cX6_goes 78 = .ok (.iaload, 1) := by decide +kernel
theorem dX6_goes_79 : decode cX6_goes 79 = .ok (.if_icmp .ne 7, 3) := by decide +kernel
theorem dX6_goes_82 : decode cX6_goes 82 = .ok (.iconst 2, 1) := by decide +kernel
theorem dX6_goes_83 : decode cX6_goes 83 = .ok (.goto 4, 3) := by decide +kernel
theorem dX6_goes_86 : decode cX6_goes 86 = .ok (.iconst 1, 1) := by decide +kernel
theorem dX6_goes_87 : decode cX6_goes 87 = .ok (.iastore, 1) := by decide +kernel
theorem dX6_goes_88 : decode cX6_goes 88 = .ok (.aload_n 0, 1) := by decide +kernel
theorem dX6_goes_89 : decode cX6_goes 89 = .ok (.getfield 38, 3) := by decide +kernel
theorem dX6_goes_92 : decode cX6_goes 92 = .ok (.iload_n 1, 1) := by decide +kernel
theorem dX6_goes_93 : decode cX6_goes 93 = .ok (.iaload, 1) := by decide +kernel
theorem dX6_goes_94 : decode cX6_goes 94 = .ok (.iconst 2, 1) := by decide +kernel
theorem dX6_goes_95 : decode cX6_goes 95 = .ok (.if_icmp .eq 5, 3) := by decide +kernel
theorem dX6_goes_98 : decode cX6_goes 98 = .ok (.iconst 0, 1) := by decide +kernel
theorem dX6_goes_99 : decode cX6_goes 99 = .ok (.ireturn, 1) := by decide +kernel
theorem dX6_goes_100 : decode cX6_goes 100 = .ok (.aload_n 0, 1) := by decide +kernel
theorem dX6_goes_101 : decode cX6_goes 101 = .ok (.getfield 23, 3) := by decide +kernel
theorem dX6_goes_104 : decode cX6_goes 104 = .ok (.iload_n 2, 1) := by decide +kernel
theorem dX6_goes_105 : decode cX6_goes 105 = .ok (.iaload, 1) := by decide +kernel
theorem dX6_goes_106 : decode cX6_goes 106 = .ok (.istore_n 3, 1) := by decide +kernel
theorem dX6_goes_107 : decode cX6_goes 107 = .ok (.aload_n 0, 1) := by decide +kernel
theorem dX6_goes_108 : decode cX6_goes 108 = .ok (.getfield 7, 3) := by decide +kernel
theorem dX6_goes_111 : decode cX6_goes 111 = .ok (.iload_n 3, 1) := by decide +kernel
theorem dX6_goes_112 : decode cX6_goes 112 = .ok (.iaload, 1) := by decide +kernel
theorem dX6_goes_113 : decode cX6_goes 113 = .ok (.aload_n 0, 1) := by decide +kernel
theorem dX6_goes_114 : decode cX6_goes 114 = .ok (.getfield 13, 3) := by decide +kernel
theorem dX6_goes_117 : decode cX6_goes 117 = .ok (.iload_n 3, 1) := by decide +kernel
theorem dX6_goes_118 : decode cX6_goes 118 = .ok (.iaload, 1) := by decide +kernel
theorem dX6_goes_119 : decode cX6_goes 119 = .ok (.if_icmp .lt 21, 3) := by decide +kernel
theorem dX6_goes_122 : decode cX6_goes 122 = .ok (.aload_n 0, 1) := by decide +kernel
theorem dX6_goes_123 : decode cX6_goes 123 = .ok (.getfield 7, 3) := by decide +kernel
theorem dX6_goes_126 : decode cX6_goes 126 = .ok (.iload_n 3, 1) := by decide +kernel
theorem dX6_goes_127 : decode cX6_goes 127 = .ok (.dup2, 1) := by decide +kernel
theorem dX6_goes_128 : decode cX6_goes 128 = .ok (.iaload, 1) := by decide +kernel
theorem dX6_goes_129 : decode cX6_goes 129 = .ok (.aload_n 0, 1) := by decide +kernel
theorem dX6_goes_130 : decode cX6_goes 130 = .ok (.getfield 13, 3) := by decide +kernel
theorem dX6_goes_133 : decode cX6_goes 133 = .ok (.iload_n 3, 1) := by decide +kernel
theorem dX6_goes_134 : decode cX6_goes 134 = .ok (.iaload, 1) := by decide +kernel
theorem dX6_goes_135 : decode cX6_goes 135 = .ok (.isub, 1) := by decide +kernel
theorem dX6_goes_136 : decode cX6_goes 136 = .ok (.iastore, 1) := by decide +kernel
theorem dX6_goes_137 : decode cX6_goes 137 = .ok (.goto 13, 3) := by decide +kernel
theorem dX6_goes_140 : decode cX6_goes 140 = .ok (.aload_n 0, 1) := by decide +kernel
theorem dX6_goes_141 : decode cX6_goes 141 = .ok (.getfield 44, 3) := by decide +kernel
theorem dX6_goes_144 : decode cX6_goes 144 = .ok (.iload_n 1, 1) := by decide +kernel
theorem dX6_goes_145 : decode cX6_goes 145 = .ok (.dup2, 1) := by decide +kernel
theorem dX6_goes_146 : decode cX6_goes 146 = .ok (.iaload, 1) := by decide +kernel
theorem dX6_goes_147 : decode cX6_goes 147 = .ok (.iconst 1, 1) := by decide +kernel
theorem dX6_goes_148 : decode cX6_goes 148 = .ok (.iadd, 1) := by decide +kernel
theorem dX6_goes_149 : decode cX6_goes 149 = .ok (.iastore, 1) := by decide +kernel
theorem dX6_goes_150 : decode cX6_goes 150 = .ok (.aload_n 0, 1) := by decide +kernel
theorem dX6_goes_151 : decode cX6_goes 151 = .ok (.iload_n 3, 1) := by decide +kernel
theorem dX6_goes_152 : decode cX6_goes 152 = .ok (.iload_n 1, 1) := by decide +kernel
theorem dX6_goes_153 : decode cX6_goes 153 = .ok (.invokevirtual 104, 3) := by decide +kernel
theorem dX6_goes_156 : decode cX6_goes 156 = .ok (.iload_n 3, 1) := by decide +kernel
theorem dX6_goes_157 : decode cX6_goes 157 = .ok (.aload_n 0, 1) := by decide +kernel
theorem dX6_goes_158 : decode cX6_goes 158 = .ok (.getfield 35, 3) := by decide +kernel
theorem dX6_goes_161 : decode cX6_goes 161 = .ok (.iload_n 1, 1) := by decide +kernel
theorem dX6_goes_162 : decode cX6_goes 162 = .ok (.iaload, 1) := by decide +kernel
theorem dX6_goes_163 : decode cX6_goes 163 = .ok (.if_icmp .ne 7, 3) := by decide +kernel
theorem dX6_goes_166 : decode cX6_goes 166 = .ok (.iconst 1, 1) := by decide +kernel
theorem dX6_goes_167 : decode cX6_goes 167 = .ok (.goto 4, 3) := by decide +kernel
theorem dX6_goes_170 : decode cX6_goes 170 = .ok (.iconst 0, 1) := by decide +kernel
theorem dX6_goes_171 : decode cX6_goes 171 = .ok (.istore 4, 2) := by decide +kernel
theorem dX6_goes_173 : decode cX6_goes 173 = .ok (.iload 4, 2) := by decide +kernel
theorem dX6_goes_175 : decode cX6_goes 175 = .ok (.ifCond .eq 17, 3) := by decide +kernel
theorem dX6_goes_178 : decode cX6_goes 178 = .ok (.aload_n 0, 1) := by decide +kernel
theorem dX6_goes_179 : decode cX6_goes 179 = .ok (.getfield 38, 3) := by decide +kernel
theorem dX6_goes_182 : decode cX6_goes 182 = .ok (.iload_n 1, 1) := by decide +kernel
theorem dX6_goes_183 : decode cX6_goes 183 = .ok (.iconst 3, 1) := by decide +kernel
theorem dX6_goes_184 : decode cX6_goes 184 = .ok (.iastore, 1) := by decide +kernel
theorem dX6_goes_185 : decode cX6_goes 185 = .ok (.aload_n 0, 1) := by decide +kernel
theorem dX6_goes_186 : decode cX6_goes 186 = .ok (.getfield 29, 3) := by decide +kernel
theorem dX6_goes_189 : decode cX6_goes 189 = .ok (.iload_n 2, 1) := by decide +kernel
theorem dX6_goes_190 : decode cX6_goes 190 = .ok (.iconst 0, 1) := by decide +kernel
theorem dX6_goes_191 : decode cX6_goes 191 = .ok (.bastore, 1) := by decide +kernel
theorem dX6_goes_192 : decode cX6_goes 192 = .ok (.iload 4, 2) := by decide +kernel
theorem dX6_goes_194 : decode cX6_goes 194 = .ok (.ireturn, 1) := by decide +kernel
theorem dX6_pass_0 : decode cX6_pass 0 = .ok (.aload_n 0, 1) := by decide +kernel
theorem dX6_pass_1 : decode cX6_pass 1 = .ok (.iconst 0, 1) := by decide +kernel
theorem dX6_pass_2 : decode cX6_pass 2 = .ok (.putfield 62, 3) := by decide +kernel
theorem dX6_pass_5 : decode cX6_pass 5 = .ok (.iload_n 1, 1) := by decide +kernel
theorem dX6_pass_6 : decode cX6_pass 6 = .ok (.iconst 1, 1) := by decide +kernel
theorem dX6_pass_7 : decode cX6_pass 7 = .ok (.bipush 60, 2) := by decide +kernel
theorem dX6_pass_9 : decode cX6_pass 9 = .ok (.invokestatic 66, 3) := by decide +kernel
theorem dX6_pass_12 : decode cX6_pass 12 = .ok (.ifCond .ne 9, 3) := by decide +kernel
theorem dX6_pass_15 : decode cX6_pass 15 = .ok (.aload_n 0, 1) := by decide +kernel
theorem dX6_pass_16 : decode cX6_pass 16 = .ok (.iconst 1, 1) := by decide +kernel
theorem dX6_pass_17 : decode cX6_pass 17 = .ok (.invokevirtual 77, 3) := by decide +kernel
theorem dX6_pass_20 : decode cX6_pass 20 = .ok (.ireturn, 1) := by decide +kernel
theorem dX6_pass_21 : decode cX6_pass 21 = .ok (.aload_n 0, 1) := by decide +kernel
theorem dX6_pass_22 : decode cX6_pass 22 = .ok (.getfield 108, 3) := by decide +kernel
theorem dX6_pass_25 : decode cX6_pass 25 = .ok (.iload_n 1, 1) := by decide +kernel
theorem dX6_pass_26 : decode cX6_pass 26 = .ok (.iadd, 1) := by decide +kernel
theorem dX6_pass_27 : decode cX6_pass 27 = .ok (.sipush 1000, 3) := by decide +kernel
theorem dX6_pass_30 : decode cX6_pass 30 = .ok (.if_icmp .le 9, 3) := by decide +kernel
theorem dX6_pass_33 : decode cX6_pass 33 = .ok (.aload_n 0, 1) := by decide +kernel
theorem dX6_pass_34 : decode cX6_pass 34 = .ok (.iconst 2, 1) := by decide +kernel
theorem dX6_pass_35 : decode cX6_pass 35 = .ok (.invokevirtual 77, 3) := by decide +kernel
theorem dX6_pass_38 : decode cX6_pass 38 = .ok (.ireturn, 1) := by decide +kernel
theorem dX6_pass_39 : decode cX6_pass 39 = .ok (.iconst 0, 1) := by decide +kernel
theorem dX6_pass_40 : decode cX6_pass 40 = .ok (.istore_n 2, 1) := by decide +kernel
theorem dX6_pass_41 : decode cX6_pass 41 = .ok (.iconst 0, 1) := by decide +kernel
theorem dX6_pass_42 : decode cX6_pass 42 = .ok (.istore_n 3, 1) := by decide +kernel
theorem dX6_pass_43 : decode cX6_pass 43 = .ok (.iload_n 3, 1) := by decide +kernel
theorem dX6_pass_44 : decode cX6_pass 44 = .ok (.iload_n 1, 1) := by decide +kernel
theorem dX6_pass_45 : decode cX6_pass 45 = .ok (.if_icmp .ge 100, 3) := by decide +kernel
theorem dX6_pass_48 : decode cX6_pass 48 = .ok (.iconst 0, 1) := by decide +kernel
theorem dX6_pass_49 : decode cX6_pass 49 = .ok (.istore 4, 2) := by decide +kernel
theorem dX6_pass_51 : decode cX6_pass 51 = .ok (.iload 4, 2) := by decide +kernel
theorem dX6_pass_53 : decode cX6_pass 53 = .ok (.aload_n 0, 1) := by decide +kernel
theorem dX6_pass_54 : decode cX6_pass 54 = .ok (.getfield 70, 3) := by decide +kernel
theorem dX6_pass_57 : decode cX6_pass 57 = .ok (.if_icmp .ge 25, 3) := by decide +kernel
theorem dX6_pass_60 : decode cX6_pass 60 = .ok (.aload_n 0, 1) := by decide +kernel
theorem dX6_pass_61 : decode cX6_pass 61 = .ok (.getfield 38, 3) := by decide +kernel
theorem dX6_pass_64 : decode cX6_pass 64 = .ok (.iload 4, 2) := by decide +kernel
theorem dX6_pass_66 : decode cX6_pass 66 = .ok (.iaload, 1) := by decide +kernel
theorem dX6_pass_67 : decode cX6_pass 67 = .ok (.ifCond .ne 9, 3) := by decide +kernel
theorem dX6_pass_70 : decode cX6_pass 70 = .ok (.aload_n 0, 1) := by decide +kernel
theorem dX6_pass_71 : decode cX6_pass 71 = .ok (.iload 4, 2) := by decide +kernel
theorem dX6_pass_73 : decode cX6_pass 73 = .ok (.invokevirtual 111, 3) := by decide +kernel
theorem dX6_pass_76 : decode cX6_pass 76 = .ok (.iinc 4 1, 3) := by decide +kernel
theorem dX6_pass_79 : decode cX6_pass 79 = .ok (.goto (-28), 3) := by decide +kernel
theorem dX6_pass_82 : decode cX6_pass 82 = .ok (.iconst 0, 1) := by decide +kernel
theorem dX6_pass_83 : decode cX6_pass 83 = .ok (.istore 4, 2) := by decide +kernel
theorem dX6_pass_85 : decode cX6_pass 85 = .ok (.iload 4, 2) := by decide +kernel
theorem dX6_pass_87 : decode cX6_pass 87 = .ok (.aload_n 0, 1) := by decide +kernel
theorem dX6_pass_88 : decode cX6_pass 88 = .ok (.getfield 70, 3) := by decide +kernel
theorem dX6_pass_91 : decode cX6_pass 91 = .ok (.if_icmp .ge 48, 3) := by decide +kernel
theorem dX6_pass_94 : decode cX6_pass 94 = .ok (.aload_n 0, 1) := by decide +kernel
theorem dX6_pass_95 : decode cX6_pass 95 = .ok (.getfield 38, 3) := by decide +kernel
theorem dX6_pass_98 : decode cX6_pass 98 = .ok (.iload 4, 2) := by decide +kernel
theorem dX6_pass_100 : decode cX6_pass 100 = .ok (.iaload, 1) := by decide +kernel
theorem dX6_pass_101 : decode cX6_pass 101 = .ok (.iconst 1, 1) := by decide +kernel
theorem dX6_pass_102 : decode cX6_pass 102 = .ok (.if_icmp .eq 14, 3) := by decide +kernel
theorem dX6_pass_105 : decode cX6_pass 105 = .ok (.aload_n 0, 1) := by decide +kernel
theorem dX6_pass_106 : decode cX6_pass 106 = .ok (.getfield 38, 3) := by decide +kernel
theorem dX6_pass_109 : decode cX6_pass 109 = .ok (.iload 4, 2) := by decide +kernel
theorem dX6_pass_111 : decode cX6_pass 111 = .ok (.iaload, 1) := by decide +kernel
theorem dX6_pass_112 : decode cX6_pass 112 = .ok (.iconst 2, 1) := by decide +kernel
theorem dX6_pass_113 : decode cX6_pass 113 = .ok (.if_icmp .ne 20, 3) := by decide +kernel
theorem dX6_pass_116 : decode cX6_pass 116 = .ok (.iload_n 2, 1) := by decide +kernel
theorem dX6_pass_117 : decode cX6_pass 117 = .ok (.aload_n 0, 1) := by decide +kernel
theorem dX6_pass_118 : decode cX6_pass 118 = .ok (.iload 4, 2) := by decide +kernel
theorem dX6_pass_120 : decode cX6_pass 120 = .ok (.invokevirtual 115, 3) := by decide +kernel
theorem dX6_pass_123 : decode cX6_pass 123 = .ok (.ifCond .eq 7, 3) := by decide +kernel
theorem dX6_pass_126 : decode cX6_pass 126 = .ok (.iconst 1, 1) := by decide +kernel
theorem dX6_pass_127 : decode cX6_pass 127 = .ok (.goto 4, 3) := by decide +kernel
theorem dX6_pass_130 : decode cX6_pass 130 = .ok (.iconst 0, 1) := by decide +kernel
theorem dX6_pass_131 : decode cX6_pass 131 = .ok (.iadd, 1) := by decide +kernel
theorem dX6_pass_132 : decode cX6_pass 132 = .ok (.istore_n 2, 1) := by decide +kernel
theorem dX6_pass_133 : decode cX6_pass 133 = .ok (.iinc 4 1, 3) := by decide +kernel
theorem dX6_pass_136 : decode cX6_pass 136 = .ok (.goto (-51), 3) := by decide +kernel
theorem dX6_pass_139 : decode cX6_pass 139 = .ok (.iinc 3 1, 3) := by decide +kernel
theorem dX6_pass_142 : decode cX6_pass 142 = .ok (.goto (-99), 3) := by decide +kernel
theorem dX6_pass_145 : decode cX6_pass 145 = .ok (.aload_n 0, 1) := by decide +kernel
theorem dX6_pass_146 : decode cX6_pass 146 = .ok (.dup, 1) := by decide +kernel
theorem dX6_pass_147 : decode cX6_pass 147 = .ok (.getfield 108, 3) := by decide +kernel
theorem dX6_pass_150 : decode cX6_pass 150 = .ok (.iload_n 1, 1) := by decide +kernel
theorem dX6_pass_151 : decode cX6_pass 151 = .ok (.iadd, 1) := by decide +kernel
theorem dX6_pass_152 : decode cX6_pass 152 = .ok (.putfield 108, 3) := by decide +kernel
theorem dX6_pass_155 : decode cX6_pass 155 = .ok (.iload_n 2, 1) := by decide +kernel
theorem dX6_pass_156 : decode cX6_pass 156 = .ok (.ireturn, 1) := by decide +kernel
theorem dX6_night_0 : decode cX6_night 0 = .ok (.aload_n 0, 1) := by decide +kernel
theorem dX6_night_1 : decode cX6_night 1 = .ok (.iconst 0, 1) := by decide +kernel
theorem dX6_night_2 : decode cX6_night 2 = .ok (.putfield 62, 3) := by decide +kernel
theorem dX6_night_5 : decode cX6_night 5 = .ok (.aload_n 0, 1) := by decide +kernel
theorem dX6_night_6 : decode cX6_night 6 = .ok (.getfield 95, 3) := by decide +kernel
theorem dX6_night_9 : decode cX6_night 9 = .ok (.sipush 1000, 3) := by decide +kernel
theorem dX6_night_12 : decode cX6_night 12 = .ok (.if_icmp .ge 7, 3) := by decide +kernel
theorem dX6_night_15 : decode cX6_night 15 = .ok (.iconst 1, 1) := by decide +kernel
theorem dX6_night_16 : decode cX6_night 16 = .ok (.goto 4, 3) := by decide +kernel
theorem dX6_night_19 : decode cX6_night 19 = .ok (.iconst 0, 1) := by decide +kernel
theorem dX6_night_20 : decode cX6_night 20 = .ok (.istore_n 1, 1) := by decide +kernel
theorem dX6_night_21 : decode cX6_night 21 = .ok (.iconst 0, 1) := by decide +kernel
theorem dX6_night_22 : decode cX6_night 22 = .ok (.istore_n 2, 1) := by decide +kernel
theorem dX6_night_23 : decode cX6_night 23 = .ok (.iload_n 2, 1) := by decide +kernel
theorem dX6_night_24 : decode cX6_night 24 = .ok (.aload_n 0, 1) := by decide +kernel
theorem dX6_night_25 : decode cX6_night 25 = .ok (.getfield 70, 3) := by decide +kernel
theorem dX6_night_28 : decode cX6_night 28 = .ok (.if_icmp .ge 29, 3) := by decide +kernel
theorem dX6_night_31 : decode cX6_night 31 = .ok (.iload_n 1, 1) := by decide +kernel
theorem dX6_night_32 : decode cX6_night 32 = .ok (.ifCond .eq 17, 3) := by decide +kernel
theorem dX6_night_35 : decode cX6_night 35 = .ok (.aload_n 0, 1) := by decide +kernel
theorem dX6_night_36 : decode cX6_night 36 = .ok (.getfield 38, 3) := by decide +kernel
theorem dX6_night_39 : decode cX6_night 39 = .ok (.iload_n 2, 1) := by decide +kernel
theorem dX6_night_40 : decode cX6_night 40 = .ok (.iaload, 1) := by decide +kernel
theorem dX6_night_41 : decode cX6_night 41 = .ok (.iconst 3, 1) := by decide +kernel
theorem dX6_night_42 : decode cX6_night 42 = .ok (.if_icmp .ne 7, 3) := by decide +kernel
theorem dX6_night_45 : decode cX6_night 45 = .ok (.iconst 1, 1) := by decide +kernel
theorem dX6_night_46 : decode cX6_night 46 = .ok (.goto 4, 3) := by decide +kernel
theorem dX6_night_49 : decode cX6_night 49 = .ok (.iconst 0, 1) := by decide +kernel
theorem dX6_night_50 : decode cX6_night 50 = .ok (.istore_n 1, 1) := by decide +kernel
theorem dX6_night_51 : decode cX6_night 51 = .ok (.iinc 2 1, 3) := by decide +kernel
theorem dX6_night_54 : decode cX6_night 54 = .ok (.goto (-31), 3) := by decide +kernel
theorem dX6_night_57 : decode cX6_night 57 = .ok (.iload_n 1, 1) := by decide +kernel
theorem dX6_night_58 : decode cX6_night 58 = .ok (.ifCond .ne 9, 3) := by decide +kernel
theorem dX6_night_61 : decode cX6_night 61 = .ok (.aload_n 0, 1) := by decide +kernel
theorem dX6_night_62 : decode cX6_night 62 = .ok (.iconst 1, 1) := by decide +kernel
theorem dX6_night_63 : decode cX6_night 63 = .ok (.invokevirtual 77, 3) := by decide +kernel
theorem dX6_night_66 : decode cX6_night 66 = .ok (.ireturn, 1) := by decide +kernel
theorem dX6_night_67 : decode cX6_night 67 = .ok (.aload_n 0, 1) := by decide +kernel
theorem dX6_night_68 : decode cX6_night 68 = .ok (.dup, 1) := by decide +kernel
theorem dX6_night_69 : decode cX6_night 69 = .ok (.getfield 95, 3) := by decide +kernel
theorem dX6_night_72 : decode cX6_night 72 = .ok (.iconst 1, 1) := by decide +kernel
theorem dX6_night_73 : decode cX6_night 73 = .ok (.iadd, 1) := by decide +kernel
theorem dX6_night_74 : decode cX6_night 74 = .ok (.putfield 95, 3) := by decide +kernel
theorem dX6_night_77 : decode cX6_night 77 = .ok (.aload_n 0, 1) := by decide +kernel
theorem dX6_night_78 : decode cX6_night 78 = .ok (.iconst 0, 1) := by decide +kernel
theorem dX6_night_79 : decode cX6_night 79 = .ok (.putfield 108, 3) := by decide +kernel
theorem dX6_night_82 : decode cX6_night 82 = .ok (.iconst 0, 1) := by decide +kernel
theorem dX6_night_83 : decode cX6_night 83 = .ok (.istore_n 2, 1) := by decide +kernel
theorem dX6_night_84 : decode cX6_night 84 = .ok (.iconst 0, 1) := by decide +kernel
theorem dX6_night_85 : decode cX6_night 85 = .ok (.istore_n 3, 1) := by decide +kernel
theorem dX6_night_86 : decode cX6_night 86 = .ok (.iload_n 3, 1) := by decide +kernel
theorem dX6_night_87 : decode cX6_night 87 = .ok (.aload_n 0, 1) := by decide +kernel
theorem dX6_night_88 : decode cX6_night 88 = .ok (.getfield 92, 3) := by decide +kernel
theorem dX6_night_91 : decode cX6_night 91 = .ok (.if_icmp .ge 30, 3) := by decide +kernel
theorem dX6_night_94 : decode cX6_night 94 = .ok (.iload_n 2, 1) := by decide +kernel
theorem dX6_night_95 : decode cX6_night 95 = .ok (.aload_n 0, 1) := by decide +kernel
theorem dX6_night_96 : decode cX6_night 96 = .ok (.getfield 59, 3) := by decide +kernel
theorem dX6_night_99 : decode cX6_night 99 = .ok (.iload_n 3, 1) := by decide +kernel
theorem dX6_night_100 : decode cX6_night 100 = .ok (.iaload, 1) := by decide +kernel
theorem dX6_night_101 : decode cX6_night 101 = .ok (.aload_n 0, 1) := by decide +kernel
theorem dX6_night_102 : decode cX6_night 102 = .ok (.getfield 95, 3) := by decide +kernel
theorem dX6_night_105 : decode cX6_night 105 = .ok (.if_icmp .ne 7, 3) := by decide +kernel
theorem dX6_night_108 : decode cX6_night 108 = .ok (.iconst 1, 1) := by decide +kernel
theorem dX6_night_109 : decode cX6_night 109 = .ok (.goto 4, 3) := by decide +kernel
theorem dX6_night_112 : decode cX6_night 112 = .ok (.iconst 0, 1) := by decide +kernel
theorem dX6_night_113 : decode cX6_night 113 = .ok (.iadd, 1) := by decide +kernel
theorem dX6_night_114 : decode cX6_night 114 = .ok (.istore_n 2, 1) := by decide +kernel
theorem dX6_night_115 : decode cX6_night 115 = .ok (.iinc 3 1, 3) := by decide +kernel
theorem dX6_night_118 : decode cX6_night 118 = .ok (.goto (-32), 3) := by decide +kernel
theorem dX6_night_121 : decode cX6_night 121 = .ok (.iload_n 2, 1) := by decide +kernel
theorem dX6_night_122 : decode cX6_night 122 = .ok (.ireturn, 1) := by decide +kernel
theorem dX6_complain_0 : decode cX6_complain 0 = .ok (.aload_n 0, 1) := by decide +kernel
theorem dX6_complain_1 : decode cX6_complain 1 = .ok (.iconst 0, 1) := by decide +kernel
theorem dX6_complain_2 : decode cX6_complain 2 = .ok (.putfield 62, 3) := by decide +kernel
theorem dX6_complain_5 : decode cX6_complain 5 = .ok (.aload_n 0, 1) := by decide +kernel
theorem dX6_complain_6 : decode cX6_complain 6 = .ok (.iload_n 1, 1) := by decide +kernel
theorem dX6_complain_7 : decode cX6_complain 7 = .ok (.invokevirtual 118, 3) := by decide +kernel
theorem dX6_complain_10 : decode cX6_complain 10 = .ok (.ifCond .ne 9, 3) := by decide +kernel
theorem dX6_complain_13 : decode cX6_complain 13 = .ok (.aload_n 0, 1) := by decide +kernel
theorem dX6_complain_14 : decode cX6_complain 14 = .ok (.iconst 1, 1) := by decide +kernel
theorem dX6_complain_15 : decode cX6_complain 15 = .ok (.invokevirtual 77, 3) := by decide +kernel
theorem dX6_complain_18 : decode cX6_complain 18 = .ok (.ireturn, 1) := by decide +kernel
theorem dX6_complain_19 : decode cX6_complain 19 = .ok (.aload_n 0, 1) := by decide +kernel
theorem dX6_complain_20 : decode cX6_complain 20 = .ok (.getfield 38, 3) := by decide +kernel
theorem dX6_complain_23 : decode cX6_complain 23 = .ok (.iload_n 1, 1) := by decide +kernel
theorem dX6_complain_24 : decode cX6_complain 24 = .ok (.iaload, 1) := by decide +kernel
theorem dX6_complain_25 : decode cX6_complain 25 = .ok (.iconst 3, 1) := by decide +kernel
theorem dX6_complain_26 : decode cX6_complain 26 = .ok (.if_icmp .ne 12, 3) := by decide +kernel
theorem dX6_complain_29 : decode cX6_complain 29 = .ok (.aload_n 0, 1) := by decide +kernel
theorem dX6_complain_30 : decode cX6_complain 30 = .ok (.getfield 47, 3) := by decide +kernel
theorem dX6_complain_33 : decode cX6_complain 33 = .ok (.iload_n 1, 1) := by decide +kernel
theorem dX6_complain_34 : decode cX6_complain 34 = .ok (.baload, 1) := by decide +kernel
theorem dX6_complain_35 : decode cX6_complain 35 = .ok (.ifCond .eq 9, 3) := by decide +kernel
theorem dX6_complain_38 : decode cX6_complain 38 = .ok (.aload_n 0, 1) := by decide +kernel
theorem dX6_complain_39 : decode cX6_complain 39 = .ok (.iconst 2, 1) := by decide +kernel
theorem dX6_complain_40 : decode cX6_complain 40 = .ok (.invokevirtual 77, 3) := by decide +kernel
theorem dX6_complain_43 : decode cX6_complain 43 = .ok (.ireturn, 1) := by decide +kernel
theorem dX6_complain_44 : decode cX6_complain 44 = .ok (.aload_n 0, 1) := by decide +kernel
theorem dX6_complain_45 : decode cX6_complain 45 = .ok (.getfield 41, 3) := by decide +kernel
theorem dX6_complain_48 : decode cX6_complain 48 = .ok (.iload_n 1, 1) := by decide +kernel
theorem dX6_complain_49 : decode cX6_complain 49 = .ok (.iaload, 1) := by decide +kernel
theorem dX6_complain_50 : decode cX6_complain 50 = .ok (.istore_n 3, 1) := by decide +kernel
theorem dX6_complain_51 : decode cX6_complain 51 = .ok (.aload_n 0, 1) := by decide +kernel
theorem dX6_complain_52 : decode cX6_complain 52 = .ok (.getfield 26, 3) := by decide +kernel
theorem dX6_complain_55 : decode cX6_complain 55 = .ok (.iload_n 3, 1) := by decide +kernel
theorem dX6_complain_56 : decode cX6_complain 56 = .ok (.iaload, 1) := by decide +kernel
theorem dX6_complain_57 : decode cX6_complain 57 = .ok (.iload_n 2, 1) := by decide +kernel
theorem dX6_complain_58 : decode cX6_complain 58 = .ok (.ifCond .eq 7, 3) := by decide +kernel
theorem dX6_complain_61 : decode cX6_complain 61 = .ok (.iconst 5, 1) := by decide +kernel
theorem dX6_complain_62 : decode cX6_complain 62 = .ok (.goto 5, 3) := by decide +kernel
theorem dX6_complain_65 : decode cX6_complain 65 = .ok (.bipush (-10), 2) := by decide +kernel
theorem dX6_complain_67 : decode cX6_complain 67 = .ok (.iadd, 1) := by decide +kernel
theorem dX6_complain_68 : decode cX6_complain 68 = .ok (.istore 4, 2) := by decide +kernel
theorem dX6_complain_70 : decode cX6_complain 70 = .ok (.aload_n 0, 1) := by decide +kernel
theorem dX6_complain_71 : decode cX6_complain 71 = .ok (.getfield 26, 3) := by decide +kernel
theorem dX6_complain_74 : decode cX6_complain 74 = .ok (.iload_n 3, 1) := by decide +kernel
theorem dX6_complain_75 : decode cX6_complain 75 = .ok (.iload 4, 2) := by decide +kernel
theorem dX6_complain_77 : decode cX6_complain 77 = .ok (.ifCond .ge 7, 3) := by decide +kernel
theorem dX6_complain_80 : decode cX6_complain 80 = .ok (.iconst 0, 1) := by decide +kernel
theorem dX6_complain_81 : decode cX6_complain 81 = .ok (.goto 17, 3) := by decide +kernel
theorem dX6_complain_84 : decode cX6_complain 84 = .ok (.iload 4, 2) := by decide +kernel
theorem dX6_complain_86 : decode cX6_complain 86 = .ok (.bipush 100, 2) := by decide +kernel
theorem dX6_complain_88 : decode cX6_complain 88 = .ok (.if_icmp .le 8, 3) := by decide +kernel
theorem dX6_complain_91 : decode cX6_complain 91 = .ok (.bipush 100, 2) := by decide +kernel
theorem dX6_complain_93 : decode cX6_complain 93 = .ok (.goto 5, 3) := by decide +kernel
theorem dX6_complain_96 : decode cX6_complain 96 = .ok (.iload 4, 2) := by decide +kernel
theorem dX6_complain_98 : decode cX6_complain 98 = .ok (.iastore, 1) := by decide +kernel
theorem dX6_complain_99 : decode cX6_complain 99 = .ok (.aload_n 0, 1) := by decide +kernel
theorem dX6_complain_100 : decode cX6_complain 100 = .ok (.getfield 47, 3) := by decide +kernel
theorem dX6_complain_103 : decode cX6_complain 103 = .ok (.iload_n 1, 1) := by decide +kernel
theorem dX6_complain_104 : decode cX6_complain 104 = .ok (.iconst 1, 1) := by decide +kernel
theorem dX6_complain_105 : decode cX6_complain 105 = .ok (.bastore, 1) := by decide +kernel
theorem dX6_complain_106 : decode cX6_complain 106 = .ok (.aload_n 0, 1) := by decide +kernel
theorem dX6_complain_107 : decode cX6_complain 107 = .ok (.getfield 26, 3) := by decide +kernel
theorem dX6_complain_110 : decode cX6_complain 110 = .ok (.iload_n 3, 1) := by decide +kernel
theorem dX6_complain_111 : decode cX6_complain 111 = .ok (.iaload, 1) := by decide +kernel
theorem dX6_complain_112 : decode cX6_complain 112 = .ok (.ireturn, 1) := by decide +kernel
theorem dX6_day_0 : decode cX6_day 0 = .ok (.aload_n 0, 1) := by decide +kernel
theorem dX6_day_1 : decode cX6_day 1 = .ok (.iconst 0, 1) := by decide +kernel
theorem dX6_day_2 : decode cX6_day 2 = .ok (.putfield 62, 3) := by decide +kernel
theorem dX6_day_5 : decode cX6_day 5 = .ok (.aload_n 0, 1) := by decide +kernel
theorem dX6_day_6 : decode cX6_day 6 = .ok (.getfield 95, 3) := by decide +kernel
theorem dX6_day_9 : decode cX6_day 9 = .ok (.ireturn, 1) := by decide +kernel
theorem dX6_minute_0 : decode cX6_minute 0 = .ok (.aload_n 0, 1) := by decide +kernel
theorem dX6_minute_1 : decode cX6_minute 1 = .ok (.iconst 0, 1) := by decide +kernel
theorem dX6_minute_2 : decode cX6_minute 2 = .ok (.putfield 62, 3) := by decide +kernel
theorem dX6_minute_5 : decode cX6_minute 5 = .ok (.aload_n 0, 1) := by decide +kernel
theorem dX6_minute_6 : decode cX6_minute 6 = .ok (.getfield 108, 3) := by decide +kernel
theorem dX6_minute_9 : decode cX6_minute 9 = .ok (.ireturn, 1) := by decide +kernel
theorem dX6_purse_0 : decode cX6_purse 0 = .ok (.aload_n 0, 1) := by decide +kernel
theorem dX6_purse_1 : decode cX6_purse 1 = .ok (.iconst 0, 1) := by decide +kernel
theorem dX6_purse_2 : decode cX6_purse 2 = .ok (.putfield 62, 3) := by decide +kernel
theorem dX6_purse_5 : decode cX6_purse 5 = .ok (.iload_n 1, 1) := by decide +kernel
theorem dX6_purse_6 : decode cX6_purse 6 = .ok (.invokestatic 73, 3) := by decide +kernel
theorem dX6_purse_9 : decode cX6_purse 9 = .ok (.ifCond .eq 12, 3) := by decide +kernel
theorem dX6_purse_12 : decode cX6_purse 12 = .ok (.aload_n 0, 1) := by decide +kernel
theorem dX6_purse_13 : decode cX6_purse 13 = .ok (.getfield 7, 3) := by decide +kernel
theorem dX6_purse_16 : decode cX6_purse 16 = .ok (.iload_n 1, 1) := by decide +kernel
theorem dX6_purse_17 : decode cX6_purse 17 = .ok (.iaload, 1) := by decide +kernel
theorem dX6_purse_18 : decode cX6_purse 18 = .ok (.goto 8, 3) := by decide +kernel
theorem dX6_purse_21 : decode cX6_purse 21 = .ok (.aload_n 0, 1) := by decide +kernel
theorem dX6_purse_22 : decode cX6_purse 22 = .ok (.iconst 1, 1) := by decide +kernel
theorem dX6_purse_23 : decode cX6_purse 23 = .ok (.invokevirtual 77, 3) := by decide +kernel
theorem dX6_purse_26 : decode cX6_purse 26 = .ok (.ireturn, 1) := by decide +kernel
theorem dX6_walks_0 : decode cX6_walks 0 = .ok (.aload_n 0, 1) := by decide +kernel
theorem dX6_walks_1 : decode cX6_walks 1 = .ok (.iconst 0, 1) := by decide +kernel
theorem dX6_walks_2 : decode cX6_walks 2 = .ok (.putfield 62, 3) := by decide +kernel
theorem dX6_walks_5 : decode cX6_walks 5 = .ok (.aload_n 0, 1) := by decide +kernel
theorem dX6_walks_6 : decode cX6_walks 6 = .ok (.getfield 70, 3) := by decide +kernel
theorem dX6_walks_9 : decode cX6_walks 9 = .ok (.ireturn, 1) := by decide +kernel
theorem dX6_state_0 : decode cX6_state 0 = .ok (.aload_n 0, 1) := by decide +kernel
theorem dX6_state_1 : decode cX6_state 1 = .ok (.iconst 0, 1) := by decide +kernel
theorem dX6_state_2 : decode cX6_state 2 = .ok (.putfield 62, 3) := by decide +kernel
theorem dX6_state_5 : decode cX6_state 5 = .ok (.aload_n 0, 1) := by decide +kernel
theorem dX6_state_6 : decode cX6_state 6 = .ok (.iload_n 1, 1) := by decide +kernel
theorem dX6_state_7 : decode cX6_state 7 = .ok (.invokevirtual 118, 3) := by decide +kernel
theorem dX6_state_10 : decode cX6_state 10 = .ok (.ifCond .eq 12, 3) := by decide +kernel
theorem dX6_state_13 : decode cX6_state 13 = .ok (.aload_n 0, 1) := by decide +kernel
theorem dX6_state_14 : decode cX6_state 14 = .ok (.getfield 38, 3) := by decide +kernel
theorem dX6_state_17 : decode cX6_state 17 = .ok (.iload_n 1, 1) := by decide +kernel
theorem dX6_state_18 : decode cX6_state 18 = .ok (.iaload, 1) := by decide +kernel
theorem dX6_state_19 : decode cX6_state 19 = .ok (.goto 8, 3) := by decide +kernel
theorem dX6_state_22 : decode cX6_state 22 = .ok (.aload_n 0, 1) := by decide +kernel
theorem dX6_state_23 : decode cX6_state 23 = .ok (.iconst 1, 1) := by decide +kernel
theorem dX6_state_24 : decode cX6_state 24 = .ok (.invokevirtual 77, 3) := by decide +kernel
theorem dX6_state_27 : decode cX6_state 27 = .ok (.ireturn, 1) := by decide +kernel
theorem dX6_escortOf_0 : decode cX6_escortOf 0 = .ok (.aload_n 0, 1) := by decide +kernel
theorem dX6_escortOf_1 : decode cX6_escortOf 1 = .ok (.iconst 0, 1) := by decide +kernel
theorem dX6_escortOf_2 : decode cX6_escortOf 2 = .ok (.putfield 62, 3) := by decide +kernel
theorem dX6_escortOf_5 : decode cX6_escortOf 5 = .ok (.aload_n 0, 1) := by decide +kernel
theorem dX6_escortOf_6 : decode cX6_escortOf 6 = .ok (.iload_n 1, 1) := by decide +kernel
theorem dX6_escortOf_7 : decode cX6_escortOf 7 = .ok (.invokevirtual 118, 3) := by decide +kernel
theorem dX6_escortOf_10 : decode cX6_escortOf 10 = .ok (.ifCond .eq 12, 3) := by decide +kernel
theorem dX6_escortOf_13 : decode cX6_escortOf 13 = .ok (.aload_n 0, 1) := by decide +kernel
theorem dX6_escortOf_14 : decode cX6_escortOf 14 = .ok (.getfield 41, 3) := by decide +kernel
theorem dX6_escortOf_17 : decode cX6_escortOf 17 = .ok (.iload_n 1, 1) := by decide +kernel
theorem dX6_escortOf_18 : decode cX6_escortOf 18 = .ok (.iaload, 1) := by decide +kernel
theorem dX6_escortOf_19 : decode cX6_escortOf 19 = .ok (.goto 8, 3) := by decide +kernel
theorem dX6_escortOf_22 : decode cX6_escortOf 22 = .ok (.aload_n 0, 1) := by decide +kernel
theorem dX6_escortOf_23 : decode cX6_escortOf 23 = .ok (.iconst 1, 1) := by decide +kernel
theorem dX6_escortOf_24 : decode cX6_escortOf 24 = .ok (.invokevirtual 77, 3) := by decide +kernel
theorem dX6_escortOf_27 : decode cX6_escortOf 27 = .ok (.ireturn, 1) := by decide +kernel
theorem dX6_dark_0 : decode cX6_dark 0 = .ok (.aload_n 0, 1) := by decide +kernel
theorem dX6_dark_1 : decode cX6_dark 1 = .ok (.iconst 0, 1) := by decide +kernel
theorem dX6_dark_2 : decode cX6_dark 2 = .ok (.putfield 62, 3) := by decide +kernel
theorem dX6_dark_5 : decode cX6_dark 5 = .ok (.aload_n 0, 1) := by decide +kernel
theorem dX6_dark_6 : decode cX6_dark 6 = .ok (.iload_n 1, 1) := by decide +kernel
theorem dX6_dark_7 : decode cX6_dark 7 = .ok (.invokevirtual 118, 3) := by decide +kernel
theorem dX6_dark_10 : decode cX6_dark 10 = .ok (.ifCond .eq 12, 3) := by decide +kernel
theorem dX6_dark_13 : decode cX6_dark 13 = .ok (.aload_n 0, 1) := by decide +kernel
theorem dX6_dark_14 : decode cX6_dark 14 = .ok (.getfield 44, 3) := by decide +kernel
theorem dX6_dark_17 : decode cX6_dark 17 = .ok (.iload_n 1, 1) := by decide +kernel
theorem dX6_dark_18 : decode cX6_dark 18 = .ok (.iaload, 1) := by decide +kernel
theorem dX6_dark_19 : decode cX6_dark 19 = .ok (.goto 8, 3) := by decide +kernel
theorem dX6_dark_22 : decode cX6_dark 22 = .ok (.aload_n 0, 1) := by decide +kernel
theorem dX6_dark_23 : decode cX6_dark 23 = .ok (.iconst 1, 1) := by decide +kernel
theorem dX6_dark_24 : decode cX6_dark 24 = .ok (.invokevirtual 77, 3) := by decide +kernel
theorem dX6_dark_27 : decode cX6_dark 27 = .ok (.ireturn, 1) := by decide +kernel
theorem dX6_streetOf_0 : decode cX6_streetOf 0 = .ok (.aload_n 0, 1) := by decide +kernel
theorem dX6_streetOf_1 : decode cX6_streetOf 1 = .ok (.iconst 0, 1) := by decide +kernel
theorem dX6_streetOf_2 : decode cX6_streetOf 2 = .ok (.putfield 62, 3) := by decide +kernel
theorem dX6_streetOf_5 : decode cX6_streetOf 5 = .ok (.iload_n 1, 1) := by decide +kernel
theorem dX6_streetOf_6 : decode cX6_streetOf 6 = .ok (.invokestatic 85, 3) := by decide +kernel
theorem dX6_streetOf_9 : decode cX6_streetOf 9 = .ok (.ifCond .eq 12, 3) := by decide +kernel
theorem dX6_streetOf_12 : decode cX6_streetOf 12 = .ok (.aload_n 0, 1) := by decide +kernel
theorem dX6_streetOf_13 : decode cX6_streetOf 13 = .ok (.getfield 23, 3) := by decide +kernel
theorem dX6_streetOf_16 : decode cX6_streetOf 16 = .ok (.iload_n 1, 1) := by decide +kernel
theorem dX6_streetOf_17 : decode cX6_streetOf 17 = .ok (.iaload, 1) := by decide +kernel
theorem dX6_streetOf_18 : decode cX6_streetOf 18 = .ok (.goto 8, 3) := by decide +kernel
theorem dX6_streetOf_21 : decode cX6_streetOf 21 = .ok (.aload_n 0, 1) := by decide +kernel
theorem dX6_streetOf_22 : decode cX6_streetOf 22 = .ok (.iconst 1, 1) := by decide +kernel
theorem dX6_streetOf_23 : decode cX6_streetOf 23 = .ok (.invokevirtual 77, 3) := by decide +kernel
theorem dX6_streetOf_26 : decode cX6_streetOf 26 = .ok (.ireturn, 1) := by decide +kernel
theorem dX6_rank_0 : decode cX6_rank 0 = .ok (.aload_n 0, 1) := by decide +kernel
theorem dX6_rank_1 : decode cX6_rank 1 = .ok (.iconst 0, 1) := by decide +kernel
theorem dX6_rank_2 : decode cX6_rank 2 = .ok (.putfield 62, 3) := by decide +kernel
theorem dX6_rank_5 : decode cX6_rank 5 = .ok (.iload_n 1, 1) := by decide +kernel
theorem dX6_rank_6 : decode cX6_rank 6 = .ok (.invokestatic 85, 3) := by decide +kernel
theorem dX6_rank_9 : decode cX6_rank 9 = .ok (.ifCond .eq 12, 3) := by decide +kernel
theorem dX6_rank_12 : decode cX6_rank 12 = .ok (.aload_n 0, 1) := by decide +kernel
theorem dX6_rank_13 : decode cX6_rank 13 = .ok (.getfield 26, 3) := by decide +kernel
theorem dX6_rank_16 : decode cX6_rank 16 = .ok (.iload_n 1, 1) := by decide +kernel
theorem dX6_rank_17 : decode cX6_rank 17 = .ok (.iaload, 1) := by decide +kernel
theorem dX6_rank_18 : decode cX6_rank 18 = .ok (.goto 8, 3) := by decide +kernel
theorem dX6_rank_21 : decode cX6_rank 21 = .ok (.aload_n 0, 1) := by decide +kernel
theorem dX6_rank_22 : decode cX6_rank 22 = .ok (.iconst 1, 1) := by decide +kernel
theorem dX6_rank_23 : decode cX6_rank 23 = .ok (.invokevirtual 77, 3) := by decide +kernel
theorem dX6_rank_26 : decode cX6_rank 26 = .ok (.ireturn, 1) := by decide +kernel
theorem dX6_way_0 : decode cX6_way 0 = .ok (.aload_n 0, 1) := by decide +kernel
theorem dX6_way_1 : decode cX6_way 1 = .ok (.iconst 0, 1) := by decide +kernel
theorem dX6_way_2 : decode cX6_way 2 = .ok (.putfield 62, 3) := by decide +kernel
theorem dX6_way_5 : decode cX6_way 5 = .ok (.iload_n 1, 1) := by decide +kernel
theorem dX6_way_6 : decode cX6_way 6 = .ok (.invokestatic 73, 3) := by decide +kernel
theorem dX6_way_9 : decode cX6_way 9 = .ok (.ifCond .eq 18, 3) := by decide +kernel
theorem dX6_way_12 : decode cX6_way 12 = .ok (.iload_n 2, 1) := by decide +kernel
theorem dX6_way_13 : decode cX6_way 13 = .ok (.invokestatic 73, 3) := by decide +kernel
theorem dX6_way_16 : decode cX6_way 16 = .ok (.ifCond .eq 11, 3) := by decide +kernel
theorem dX6_way_19 : decode cX6_way 19 = .ok (.iload_n 1, 1) := by decide +kernel
theorem dX6_way_20 : decode cX6_way 20 = .ok (.iload_n 2, 1) := by decide +kernel
theorem dX6_way_21 : decode cX6_way 21 = .ok (.invokestatic 88, 3) := by decide +kernel
theorem dX6_way_24 : decode cX6_way 24 = .ok (.goto 8, 3) := by decide +kernel
theorem dX6_way_27 : decode cX6_way 27 = .ok (.aload_n 0, 1) := by decide +kernel
theorem dX6_way_28 : decode cX6_way 28 = .ok (.iconst 1, 1) := by decide +kernel
theorem dX6_way_29 : decode cX6_way 29 = .ok (.invokevirtual 77, 3) := by decide +kernel
theorem dX6_way_32 : decode cX6_way 32 = .ok (.ireturn, 1) := by decide +kernel
theorem dX6_pictures_0 : decode cX6_pictures 0 = .ok (.aload_n 0, 1) := by decide +kernel
theorem dX6_pictures_1 : decode cX6_pictures 1 = .ok (.iconst 0, 1) := by decide +kernel
theorem dX6_pictures_2 : decode cX6_pictures 2 = .ok (.putfield 62, 3) := by decide +kernel
theorem dX6_pictures_5 : decode cX6_pictures 5 = .ok (.iconst 0, 1) := by decide +kernel
theorem dX6_pictures_6 : decode cX6_pictures 6 = .ok (.istore_n 1, 1) := by decide +kernel
theorem dX6_pictures_7 : decode cX6_pictures 7 = .ok (.iconst 0, 1) := by decide +kernel
theorem dX6_pictures_8 : decode cX6_pictures 8 = .ok (.istore_n 2, 1) := by decide +kernel
theorem dX6_pictures_9 : decode cX6_pictures 9 = .ok (.iload_n 2, 1) := by decide +kernel
theorem dX6_pictures_10 : decode cX6_pictures 10 = .ok (.aload_n 0, 1) := by decide +kernel
theorem dX6_pictures_11 : decode cX6_pictures 11 = .ok (.getfield 92, 3) := by decide +kernel
theorem dX6_pictures_14 : decode cX6_pictures 14 = .ok (.if_icmp .ge 30, 3) := by decide +kernel
theorem dX6_pictures_17 : decode cX6_pictures 17 = .ok (.iload_n 1, 1) := by decide +kernel
theorem dX6_pictures_18 : decode cX6_pictures 18 = .ok (.aload_n 0, 1) := by decide +kernel
theorem dX6_pictures_19 : decode cX6_pictures 19 = .ok (.getfield 95, 3) := by decide +kernel
theorem dX6_pictures_22 : decode cX6_pictures 22 = .ok (.aload_n 0, 1) := by decide +kernel
theorem dX6_pictures_23 : decode cX6_pictures 23 = .ok (.getfield 59, 3) := by decide +kernel
theorem dX6_pictures_26 : decode cX6_pictures 26 = .ok (.iload_n 2, 1) := by decide +kernel
theorem dX6_pictures_27 : decode cX6_pictures 27 = .ok (.iaload, 1) := by decide +kernel
theorem dX6_pictures_28 : decode cX6_pictures 28 = .ok (.if_icmp .ge 7, 3) := by decide +kernel
theorem dX6_pictures_31 : decode cX6_pictures 31 = .ok (.iconst 1, 1) := by decide +kernel
theorem dX6_pictures_32 : decode cX6_pictures 32 = .ok (.goto 4, 3) := by decide +kernel
theorem dX6_pictures_35 : decode cX6_pictures 35 = .ok (.iconst 0, 1) := by decide +kernel
theorem dX6_pictures_36 : decode cX6_pictures 36 = .ok (.iadd, 1) := by decide +kernel
theorem dX6_pictures_37 : decode cX6_pictures 37 = .ok (.istore_n 1, 1) := by decide +kernel
theorem dX6_pictures_38 : decode cX6_pictures 38 = .ok (.iinc 2 1, 3) := by decide +kernel
theorem dX6_pictures_41 : decode cX6_pictures 41 = .ok (.goto (-32), 3) := by decide +kernel
theorem dX6_pictures_44 : decode cX6_pictures 44 = .ok (.iload_n 1, 1) := by decide +kernel
theorem dX6_pictures_45 : decode cX6_pictures 45 = .ok (.ireturn, 1) := by decide +kernel
theorem dX6_shows_0 : decode cX6_shows 0 = .ok (.aload_n 0, 1) := by decide +kernel
theorem dX6_shows_1 : decode cX6_shows 1 = .ok (.iload_n 1, 1) := by decide +kernel
theorem dX6_shows_2 : decode cX6_shows 2 = .ok (.invokestatic 73, 3) := by decide +kernel
theorem dX6_shows_5 : decode cX6_shows 5 = .ok (.ifCond .eq 15, 3) := by decide +kernel
theorem dX6_shows_8 : decode cX6_shows 8 = .ok (.aload_n 0, 1) := by decide +kernel
theorem dX6_shows_9 : decode cX6_shows 9 = .ok (.iload_n 2, 1) := by decide +kernel
theorem dX6_shows_10 : decode cX6_shows 10 = .ok (.invokevirtual 118, 3) := by decide +kernel
theorem dX6_shows_13 : decode cX6_shows 13 = .ok (.ifCond .eq 7, 3) := by decide +kernel
theorem dX6_shows_16 : decode cX6_shows 16 = .ok (.iconst 0, 1) := by decide +kernel
theorem dX6_shows_17 : decode cX6_shows 17 = .ok (.goto 4, 3) := by decide +kernel
theorem dX6_shows_20 : decode cX6_shows 20 = .ok (.iconst 1, 1) := by decide +kernel
theorem dX6_shows_21 : decode cX6_shows 21 = .ok (.putfield 62, 3) := by decide +kernel
theorem dX6_shows_24 : decode cX6_shows 24 = .ok (.aload_n 0, 1) := by decide +kernel
theorem dX6_shows_25 : decode cX6_shows 25 = .ok (.getfield 62, 3) := by decide +kernel
theorem dX6_shows_28 : decode cX6_shows 28 = .ok (.ifCond .ne 17, 3) := by decide +kernel
theorem dX6_shows_31 : decode cX6_shows 31 = .ok (.aload_n 0, 1) := by decide +kernel
theorem dX6_shows_32 : decode cX6_shows 32 = .ok (.iload_n 1, 1) := by decide +kernel
theorem dX6_shows_33 : decode cX6_shows 33 = .ok (.iload_n 2, 1) := by decide +kernel
theorem dX6_shows_34 : decode cX6_shows 34 = .ok (.iload_n 3, 1) := by decide +kernel
theorem dX6_shows_35 : decode cX6_shows 35 = .ok (.invokevirtual 98, 3) := by decide +kernel
theorem dX6_shows_38 : decode cX6_shows 38 = .ok (.ifCond .eq 7, 3) := by decide +kernel
theorem dX6_shows_41 : decode cX6_shows 41 = .ok (.iconst 1, 1) := by decide +kernel
theorem dX6_shows_42 : decode cX6_shows 42 = .ok (.goto 4, 3) := by decide +kernel
theorem dX6_shows_45 : decode cX6_shows 45 = .ok (.iconst 0, 1) := by decide +kernel
theorem dX6_shows_46 : decode cX6_shows 46 = .ok (.ireturn, 1) := by decide +kernel
theorem dX6_showsByPapers_0 : decode cX6_showsByPapers 0 = .ok (.aload_n 0, 1) := by decide +kernel
theorem dX6_showsByPapers_1 : decode cX6_showsByPapers 1 = .ok (.iload_n 1, 1) := by decide +kernel
theorem dX6_showsByPapers_2 : decode cX6_showsByPapers 2 = .ok (.invokestatic 73, 3) := by decide +kernel
theorem dX6_showsByPapers_5 : decode cX6_showsByPapers 5 = .ok (.ifCond .eq 15, 3) := by decide +kernel
theorem dX6_showsByPapers_8 : decode cX6_showsByPapers 8 = .ok (.aload_n 0, 1) := by decide +kernel
theorem dX6_showsByPapers_9 : decode cX6_showsByPapers 9 = .ok (.iload_n 2, 1) := by decide +kernel
theorem dX6_showsByPapers_10 : decode cX6_showsByPapers 10 = .ok (.invokevirtual 118, 3) := by decide +kernel
theorem dX6_showsByPapers_13 : decode cX6_showsByPapers 13 = .ok (.ifCond .eq 7, 3) := by decide +kernel
theorem dX6_showsByPapers_16 : decode cX6_showsByPapers 16 = .ok (.iconst 0, 1) := by decide +kernel
theorem dX6_showsByPapers_17 : decode cX6_showsByPapers 17 = .ok (.goto 4, 3) := by decide +kernel
theorem dX6_showsByPapers_20 : decode cX6_showsByPapers 20 = .ok (.iconst 1, 1) := by decide +kernel
theorem dX6_showsByPapers_21 : decode cX6_showsByPapers 21 = .ok (.putfield 62, 3) := by decide +kernel
theorem dX6_showsByPapers_24 : decode cX6_showsByPapers 24 = .ok (.aload_n 0, 1) := by decide +kernel
theorem dX6_showsByPapers_25 : decode cX6_showsByPapers 25 = .ok (.getfield 62, 3) := by decide +kernel
theorem dX6_showsByPapers_28 : decode cX6_showsByPapers 28 = .ok (.ifCond .ne 17, 3) := by decide +kernel
theorem dX6_showsByPapers_31 : decode cX6_showsByPapers 31 = .ok (.aload_n 0, 1) := by decide +kernel
theorem dX6_showsByPapers_32 : decode cX6_showsByPapers 32 = .ok (.iload_n 1, 1) := by decide +kernel
theorem dX6_showsByPapers_33 : decode cX6_showsByPapers 33 = .ok (.iload_n 2, 1) := by decide +kernel
theorem dX6_showsByPapers_34 : decode cX6_showsByPapers 34 = .ok (.iload_n 3, 1) := by decide +kernel
theorem dX6_showsByPapers_35 : decode cX6_showsByPapers 35 = .ok (.invokevirtual 98, 3) := by decide +kernel
theorem dX6_showsByPapers_38 : decode cX6_showsByPapers 38 = .ok (.ifCond .eq 7, 3) := by decide +kernel
theorem dX6_showsByPapers_41 : decode cX6_showsByPapers 41 = .ok (.iconst 1, 1) := by decide +kernel
theorem dX6_showsByPapers_42 : decode cX6_showsByPapers 42 = .ok (.goto 4, 3) := by decide +kernel
theorem dX6_showsByPapers_45 : decode cX6_showsByPapers 45 = .ok (.iconst 0, 1) := by decide +kernel
theorem dX6_showsByPapers_46 : decode cX6_showsByPapers 46 = .ok (.ireturn, 1) := by decide +kernel
theorem dX6_taken_0 : decode cX6_taken 0 = .ok (.aload_n 0, 1) := by decide +kernel
theorem dX6_taken_1 : decode cX6_taken 1 = .ok (.iconst 0, 1) := by decide +kernel
theorem dX6_taken_2 : decode cX6_taken 2 = .ok (.putfield 62, 3) := by decide +kernel
theorem dX6_taken_5 : decode cX6_taken 5 = .ok (.aload_n 0, 1) := by decide +kernel
theorem dX6_taken_6 : decode cX6_taken 6 = .ok (.getfield 92, 3) := by decide +kernel
theorem dX6_taken_9 : decode cX6_taken 9 = .ok (.ireturn, 1) := by decide +kernel
theorem dJ9_floorMod_7cf53_0 : decode cJ9_floorMod_7cf53 0 = .ok (.iload_n 0, 1) := by decide +kernel
theorem dJ9_floorMod_7cf53_1 : decode cJ9_floorMod_7cf53 1 = .ok (.iload_n 1, 1) := by decide +kernel
theorem dJ9_floorMod_7cf53_2 : decode cJ9_floorMod_7cf53 2 = .ok (.irem, 1) := by decide +kernel
theorem dJ9_floorMod_7cf53_3 : decode cJ9_floorMod_7cf53 3 = .ok (.istore_n 2, 1) := by decide +kernel
theorem dJ9_floorMod_7cf53_4 : decode cJ9_floorMod_7cf53 4 = .ok (.iload_n 0, 1) := by decide +kernel
theorem dJ9_floorMod_7cf53_5 : decode cJ9_floorMod_7cf53 5 = .ok (.iload_n 1, 1) := by decide +kernel
theorem dJ9_floorMod_7cf53_6 : decode cJ9_floorMod_7cf53 6 = .ok (.ixor, 1) := by decide +kernel
theorem dJ9_floorMod_7cf53_7 : decode cJ9_floorMod_7cf53 7 = .ok (.ifCond .ge 11, 3) := by decide +kernel
theorem dJ9_floorMod_7cf53_10 : decode cJ9_floorMod_7cf53 10 = .ok (.iload_n 2, 1) := by decide +kernel
theorem dJ9_floorMod_7cf53_11 : decode cJ9_floorMod_7cf53 11 = .ok (.ifCond .eq 7, 3) := by decide +kernel
theorem dJ9_floorMod_7cf53_14 : decode cJ9_floorMod_7cf53 14 = .ok (.iload_n 2, 1) := by decide +kernel
theorem dJ9_floorMod_7cf53_15 : decode cJ9_floorMod_7cf53 15 = .ok (.iload_n 1, 1) := by decide +kernel
theorem dJ9_floorMod_7cf53_16 : decode cJ9_floorMod_7cf53 16 = .ok (.iadd, 1) := by decide +kernel
theorem dJ9_floorMod_7cf53_17 : decode cJ9_floorMod_7cf53 17 = .ok (.ireturn, 1) := by decide +kernel
theorem dJ9_floorMod_7cf53_18 : decode cJ9_floorMod_7cf53 18 = .ok (.iload_n 2, 1) := by decide +kernel
theorem dJ9_floorMod_7cf53_19 : decode cJ9_floorMod_7cf53 19 = .ok (.ireturn, 1) := by decide +kernel
theorem dJ9_max_7cf53_0 : decode cJ9_max_7cf53 0 = .ok (.iload_n 0, 1) := by decide +kernel
theorem dJ9_max_7cf53_1 : decode cJ9_max_7cf53 1 = .ok (.iload_n 1, 1) := by decide +kernel
theorem dJ9_max_7cf53_2 : decode cJ9_max_7cf53 2 = .ok (.if_icmp .lt 7, 3) := by decide +kernel
theorem dJ9_max_7cf53_5 : decode cJ9_max_7cf53 5 = .ok (.iload_n 0, 1) := by decide +kernel
theorem dJ9_max_7cf53_6 : decode cJ9_max_7cf53 6 = .ok (.goto 4, 3) := by decide +kernel
theorem dJ9_max_7cf53_9 : decode cJ9_max_7cf53 9 = .ok (.iload_n 1, 1) := by decide +kernel
theorem dJ9_max_7cf53_10 : decode cJ9_max_7cf53 10 = .ok (.ireturn, 1) := by decide +kernel
theorem dJ9_min_7cf53_0 : decode cJ9_min_7cf53 0 = .ok (.iload_n 0, 1) := by decide +kernel
theorem dJ9_min_7cf53_1 : decode cJ9_min_7cf53 1 = .ok (.iload_n 1, 1) := by decide +kernel
theorem dJ9_min_7cf53_2 : decode cJ9_min_7cf53 2 = .ok (.if_icmp .gt 7, 3) := by decide +kernel
theorem dJ9_min_7cf53_5 : decode cJ9_min_7cf53 5 = .ok (.iload_n 0, 1) := by decide +kernel
theorem dJ9_min_7cf53_6 : decode cJ9_min_7cf53 6 = .ok (.goto 4, 3) := by decide +kernel
theorem dJ9_min_7cf53_9 : decode cJ9_min_7cf53 9 = .ok (.iload_n 1, 1) := by decide +kernel
theorem dJ9_min_7cf53_10 : decode cJ9_min_7cf53 10 = .ok (.ireturn, 1) := by decide +kernel
theorem dJxa1e45_init_da8c8_0 : decode cJxa1e45_init_da8c8 0 = .ok (.aload_n 0, 1) := by decide +kernel
theorem dJxa1e45_init_da8c8_1 : decode cJxa1e45_init_da8c8 1 = .ok (.invokespecial 1, 3) := by decide +kernel
theorem dJxa1e45_init_da8c8_4 : decode cJxa1e45_init_da8c8 4 = .ok (.return_, 1) := by decide +kernel
theorem dJxc12de_init_da8c8_0 : decode cJxc12de_init_da8c8 0 = .ok (.aload_n 0, 1) := by decide +kernel
theorem dJxc12de_init_da8c8_1 : decode cJxc12de_init_da8c8 1 = .ok (.invokespecial 1, 3) := by decide +kernel
theorem dJxc12de_init_da8c8_4 : decode cJxc12de_init_da8c8 4 = .ok (.aload_n 0, 1) := by decide +kernel
theorem dJxc12de_init_da8c8_5 : decode cJxc12de_init_da8c8 5 = .ok (.iconst 0, 1) := by decide +kernel
theorem dJxc12de_init_da8c8_6 : decode cJxc12de_init_da8c8 6 = .ok (.putfield 7, 3) := by decide +kernel
theorem dJxc12de_init_da8c8_9 : decode cJxc12de_init_da8c8 9 = .ok (.return_, 1) := by decide +kernel
theorem dJx4a65c_init_da8c8_0 : decode cJx4a65c_init_da8c8 0 = .ok (.aload_n 0, 1) := by decide +kernel
theorem dJx4a65c_init_da8c8_1 : decode cJx4a65c_init_da8c8 1 = .ok (.invokespecial 1, 3) := by decide +kernel
theorem dJx4a65c_init_da8c8_4 : decode cJx4a65c_init_da8c8 4 = .ok (.aload_n 0, 1) := by decide +kernel
theorem dJx4a65c_init_da8c8_5 : decode cJx4a65c_init_da8c8 5 = .ok (.getstatic 39, 3) := by decide +kernel
theorem dJx4a65c_init_da8c8_8 : decode cJx4a65c_init_da8c8 8 = .ok (.putfield 9, 3) := by decide +kernel
theorem dJx4a65c_init_da8c8_11 : decode cJx4a65c_init_da8c8 11 = .ok (.return_, 1) := by decide +kernel
theorem dJx4a65c_grow_92f84_0 : decode cJx4a65c_grow_92f84 0 = .ok (.aload_n 0, 1) := by decide +kernel
theorem dJx4a65c_grow_92f84_1 : decode cJx4a65c_grow_92f84 1 = .ok (.getfield 9, 3) := by decide +kernel
theorem dJx4a65c_grow_92f84_4 : decode cJx4a65c_grow_92f84 4 = .ok (.arraylength, 1) := by decide +kernel
theorem dJx4a65c_grow_92f84_5 : decode cJx4a65c_grow_92f84 5 = .ok (.istore_n 2, 1) := by decide +kernel
theorem dJx4a65c_grow_92f84_6 : decode cJx4a65c_grow_92f84 6 = .ok (.iload_n 2, 1) := by decide +kernel
theorem dJx4a65c_grow_92f84_7 : decode cJx4a65c_grow_92f84 7 = .ok (.ifCond .gt 13, 3) := by decide +kernel
theorem dJx4a65c_grow_92f84_10 : decode cJx4a65c_grow_92f84 10 = .ok (.aload_n 0, 1) := by decide +kernel
theorem dJx4a65c_grow_92f84_11 : decode cJx4a65c_grow_92f84 11 = .ok (.getfield 9, 3) := by decide +kernel
theorem dJx4a65c_grow_92f84_14 : decode cJx4a65c_grow_92f84 14 = .ok (.getstatic 39, 3) := by decide +kernel
theorem dJx4a65c_grow_92f84_17 : decode cJx4a65c_grow_92f84 17 = .ok (.if_acmp .eq 28, 3) := by decide +kernel
theorem dJx4a65c_grow_92f84_20 : decode cJx4a65c_grow_92f84 20 = .ok (.iload_n 2, 1) := by decide +kernel
theorem dJx4a65c_grow_92f84_21 : decode cJx4a65c_grow_92f84 21 = .ok (.iload_n 1, 1) := by decide +kernel
theorem dJx4a65c_grow_92f84_22 : decode cJx4a65c_grow_92f84 22 = .ok (.iload_n 2, 1) := by decide +kernel
theorem dJx4a65c_grow_92f84_23 : decode cJx4a65c_grow_92f84 23 = .ok (.isub, 1) := by decide +kernel
theorem dJx4a65c_grow_92f84_24 : decode cJx4a65c_grow_92f84 24 = .ok (.iload_n 2, 1) := by decide +kernel
theorem dJx4a65c_grow_92f84_25 : decode cJx4a65c_grow_92f84 25 = .ok (.iconst 1, 1) := by decide +kernel
theorem dJx4a65c_grow_92f84_26 : decode cJx4a65c_grow_92f84 26 = .ok (.ishr, 1) := by decide +kernel
theorem dJx4a65c_grow_92f84_27 : decode cJx4a65c_grow_92f84 27 = .ok (.invokestatic 73, 3) := by decide +kernel
theorem dJx4a65c_grow_92f84_30 : decode cJx4a65c_grow_92f84 30 = .ok (.istore_n 3, 1) := by decide +kernel
theorem dJx4a65c_grow_92f84_31 : decode cJx4a65c_grow_92f84 31 = .ok (.aload_n 0, 1) := by decide +kernel
theorem dJx4a65c_grow_92f84_32 : decode cJx4a65c_grow_92f84 32 = .ok (.aload_n 0, 1) := by decide +kernel
theorem dJx4a65c_grow_92f84_33 : decode cJx4a65c_grow_92f84 33 = .ok (.getfield 9, 3) := by decide +kernel
theorem dJx4a65c_grow_92f84_36 : decode cJx4a65c_grow_92f84 36 = .ok (.iload_n 3, 1) := by decide +kernel
theorem dJx4a65c_grow_92f84_37 : decode cJx4a65c_grow_92f84 37 = .ok (.invokestatic 66, 3) := by decide +kernel
theorem dJx4a65c_grow_92f84_40 : decode cJx4a65c_grow_92f84 40 = .ok (.dup_x1, 1) := by decide +kernel
theorem dJx4a65c_grow_92f84_41 : decode cJx4a65c_grow_92f84 41 = .ok (.putfield 9, 3) := by decide +kernel
theorem dJx4a65c_grow_92f84_44 : decode cJx4a65c_grow_92f84 44 = .ok (.areturn, 1) := by decide +kernel
theorem dJx4a65c_grow_92f84_45 : decode cJx4a65c_grow_92f84 45 = .ok (.aload_n 0, 1) := by decide +kernel
theorem dJx4a65c_grow_92f84_46 : decode cJx4a65c_grow_92f84 46 = .ok (.bipush 10, 2) := by decide +kernel
theorem dJx4a65c_grow_92f84_48 : decode cJx4a65c_grow_92f84 48 = .ok (.iload_n 1, 1) := by decide +kernel
theorem dJx4a65c_grow_92f84_49 : decode cJx4a65c_grow_92f84 49 = .ok (.invokestatic 79, 3) := by decide +kernel
theorem dJx4a65c_grow_92f84_52 : decode cJx4a65c_grow_92f84 52 = .ok (.anewarray 7, 3) := by decide +kernel
theorem dJx4a65c_grow_92f84_55 : decode cJx4a65c_grow_92f84 55 = .ok (.dup_x1, 1) := by decide +kernel
theorem dJx4a65c_grow_92f84_56 : decode cJx4a65c_grow_92f84 56 = .ok (.putfield 9, 3) := by decide +kernel
theorem dJx4a65c_grow_92f84_59 : decode cJx4a65c_grow_92f84 59 = .ok (.areturn, 1) := by decide +kernel
theorem dJx4a65c_grow_d5877_0 : decode cJx4a65c_grow_d5877 0 = .ok (.aload_n 0, 1) := by decide +kernel
theorem dJx4a65c_grow_d5877_1 : decode cJx4a65c_grow_d5877 1 = .ok (.aload_n 0, 1) := by decide +kernel
theorem dJx4a65c_grow_d5877_2 : decode cJx4a65c_grow_d5877 2 = .ok (.getfield 48, 3) := by decide +kernel
theorem dJx4a65c_grow_d5877_5 : decode cJx4a65c_grow_d5877 5 = .ok (.iconst 1, 1) := by decide +kernel
theorem dJx4a65c_grow_d5877_6 : decode cJx4a65c_grow_d5877 6 = .ok (.iadd, 1) := by decide +kernel
theorem dJx4a65c_grow_d5877_7 : decode cJx4a65c_grow_d5877 7 = .ok (.invokevirtual 69, 3) := by decide +kernel
theorem dJx4a65c_grow_d5877_10 : decode cJx4a65c_grow_d5877 10 = .ok (.areturn, 1) := by decide +kernel
theorem dJx4a65c_size_8abf5_0 : decode cJx4a65c_size_8abf5 0 = .ok (.aload_n 0, 1) := by decide +kernel
theorem dJx4a65c_size_8abf5_1 : decode cJx4a65c_size_8abf5 1 = .ok (.getfield 48, 3) := by decide +kernel
theorem dJx4a65c_size_8abf5_4 : decode cJx4a65c_size_8abf5 4 = .ok (.ireturn, 1) := by decide +kernel
theorem dJx4a65c_elementData_915e3_0 : decode cJx4a65c_elementData_915e3 0 = .ok (.aload_n 0, 1) := by decide +kernel
theorem dJx4a65c_elementData_915e3_1 : decode cJx4a65c_elementData_915e3 1 = .ok (.getfield 9, 3) := by decide +kernel
theorem dJx4a65c_elementData_915e3_4 : decode cJx4a65c_elementData_915e3 4 = .ok (.iload_n 1, 1) := by decide +kernel
theorem dJx4a65c_elementData_915e3_5 : decode cJx4a65c_elementData_915e3 5 = .ok (.aaload, 1) := by decide +kernel
theorem dJx4a65c_elementData_915e3_6 : decode cJx4a65c_elementData_915e3 6 = .ok (.areturn, 1) := by decide +kernel
theorem dJx4a65c_get_915e3_0 : decode cJx4a65c_get_915e3 0 = .ok (.iload_n 1, 1) := by decide +kernel
theorem dJx4a65c_get_915e3_1 : decode cJx4a65c_get_915e3 1 = .ok (.aload_n 0, 1) := by decide +kernel
theorem dJx4a65c_get_915e3_2 : decode cJx4a65c_get_915e3 2 = .ok (.getfield 48, 3) := by decide +kernel
theorem dJx4a65c_get_915e3_5 : decode cJx4a65c_get_915e3 5 = .ok (.invokestatic 118, 3) := by decide +kernel
theorem dJx4a65c_get_915e3_8 : decode cJx4a65c_get_915e3 8 = .ok (.pop, 1) := by decide +kernel
theorem dJx4a65c_get_915e3_9 : decode cJx4a65c_get_915e3 9 = .ok (.aload_n 0, 1) := by decide +kernel
theorem dJx4a65c_get_915e3_10 : decode cJx4a65c_get_915e3 10 = .ok (.iload_n 1, 1) := by decide +kernel
theorem dJx4a65c_get_915e3_11 : decode cJx4a65c_get_915e3 11 = .ok (.invokevirtual 123, 3) := by decide +kernel
theorem dJx4a65c_get_915e3_14 : decode cJx4a65c_get_915e3 14 = .ok (.areturn, 1) := by decide +kernel
theorem dJx4a65c_add_72be8_0 : decode cJx4a65c_add_72be8 0 = .ok (.iload_n 3, 1) := by decide +kernel
theorem dJx4a65c_add_72be8_1 : decode cJx4a65c_add_72be8 1 = .ok (.aload_n 2, 1) := by decide +kernel
theorem dJx4a65c_add_72be8_2 : decode cJx4a65c_add_72be8 2 = .ok (.arraylength, 1) := by decide +kernel
theorem dJx4a65c_add_72be8_3 : decode cJx4a65c_add_72be8 3 = .ok (.if_icmp .ne 8, 3) := by decide +kernel
theorem dJx4a65c_add_72be8_6 : decode cJx4a65c_add_72be8 6 = .ok (.aload_n 0, 1) := by decide +kernel
theorem dJx4a65c_add_72be8_7 : decode cJx4a65c_add_72be8 7 = .ok (.invokevirtual 129, 3) := by decide +kernel
theorem dJx4a65c_add_72be8_10 : decode cJx4a65c_add_72be8 10 = .ok (.astore_n 2, 1) := by decide +kernel
theorem dJx4a65c_add_72be8_11 : decode cJx4a65c_add_72be8 11 = .ok (.aload_n 2, 1) := by decide +kernel
theorem dJx4a65c_add_72be8_12 : decode cJx4a65c_add_72be8 12 = .ok (.iload_n 3, 1) := by decide +kernel
theorem dJx4a65c_add_72be8_13 : decode cJx4a65c_add_72be8 13 = .ok (.aload_n 1, 1) := by decide +kernel
theorem dJx4a65c_add_72be8_14 : decode cJx4a65c_add_72be8 14 = .ok (.aastore, 1) := by decide +kernel
theorem dJx4a65c_add_72be8_15 : decode cJx4a65c_add_72be8 15 = .ok (.aload_n 0, 1) := by decide +kernel
theorem dJx4a65c_add_72be8_16 : decode cJx4a65c_add_72be8 16 = .ok (.iload_n 3, 1) := by decide +kernel
theorem dJx4a65c_add_72be8_17 : decode cJx4a65c_add_72be8 17 = .ok (.iconst 1, 1) := by decide +kernel
theorem dJx4a65c_add_72be8_18 : decode cJx4a65c_add_72be8 18 = .ok (.iadd, 1) := by decide +kernel
theorem dJx4a65c_add_72be8_19 : decode cJx4a65c_add_72be8 19 = .ok (.putfield 48, 3) := by decide +kernel
theorem dJx4a65c_add_72be8_22 : decode cJx4a65c_add_72be8 22 = .ok (.return_, 1) := by decide +kernel
theorem dJx4a65c_add_9ea2d_0 : decode cJx4a65c_add_9ea2d 0 = .ok (.aload_n 0, 1) := by decide +kernel
theorem dJx4a65c_add_9ea2d_1 : decode cJx4a65c_add_9ea2d 1 = .ok (.dup, 1) := by decide +kernel
theorem dJx4a65c_add_9ea2d_2 : decode cJx4a65c_add_9ea2d 2 = .ok (.getfield 63, 3) := by decide +kernel
theorem dJx4a65c_add_9ea2d_5 : decode cJx4a65c_add_9ea2d 5 = .ok (.iconst 1, 1) := by decide +kernel
theorem dJx4a65c_add_9ea2d_6 : decode cJx4a65c_add_9ea2d 6 = .ok (.iadd, 1) := by decide +kernel
theorem dJx4a65c_add_9ea2d_7 : decode cJx4a65c_add_9ea2d 7 = .ok (.putfield 63, 3) := by decide +kernel
theorem dJx4a65c_add_9ea2d_10 : decode cJx4a65c_add_9ea2d 10 = .ok (.aload_n 0, 1) := by decide +kernel
theorem dJx4a65c_add_9ea2d_11 : decode cJx4a65c_add_9ea2d 11 = .ok (.aload_n 1, 1) := by decide +kernel
theorem dJx4a65c_add_9ea2d_12 : decode cJx4a65c_add_9ea2d 12 = .ok (.aload_n 0, 1) := by decide +kernel
theorem dJx4a65c_add_9ea2d_13 : decode cJx4a65c_add_9ea2d 13 = .ok (.getfield 9, 3) := by decide +kernel
theorem dJx4a65c_add_9ea2d_16 : decode cJx4a65c_add_9ea2d 16 = .ok (.aload_n 0, 1) := by decide +kernel
theorem dJx4a65c_add_9ea2d_17 : decode cJx4a65c_add_9ea2d 17 = .ok (.getfield 48, 3) := by decide +kernel
theorem dJx4a65c_add_9ea2d_20 : decode cJx4a65c_add_9ea2d 20 = .ok (.invokevirtual 131, 3) := by decide +kernel
theorem dJx4a65c_add_9ea2d_23 : decode cJx4a65c_add_9ea2d 23 = .ok (.iconst 1, 1) := by decide +kernel
theorem dJx4a65c_add_9ea2d_24 : decode cJx4a65c_add_9ea2d 24 = .ok (.ireturn, 1) := by decide +kernel
theorem dJx4a65c_remove_915e3_0 : decode cJx4a65c_remove_915e3 0 = .ok (.iload_n 1, 1) := by decide +kernel
theorem dJx4a65c_remove_915e3_1 : decode cJx4a65c_remove_915e3 1 = .ok (.aload_n 0, 1) := by decide +kernel
theorem dJx4a65c_remove_915e3_2 : decode cJx4a65c_remove_915e3 2 = .ok (.getfield 48, 3) := by decide +kernel
theorem dJx4a65c_remove_915e3_5 : decode cJx4a65c_remove_915e3 5 = .ok (.invokestatic 118, 3) := by decide +kernel
theorem dJx4a65c_remove_915e3_8 : decode cJx4a65c_remove_915e3 8 = .ok (.pop, 1) := by decide +kernel
theorem dJx4a65c_remove_915e3_9 : decode cJx4a65c_remove_915e3 9 = .ok (.aload_n 0, 1) := by decide +kernel
theorem dJx4a65c_remove_915e3_10 : decode cJx4a65c_remove_915e3 10 = .ok (.getfield 9, 3) := by decide +kernel
theorem dJx4a65c_remove_915e3_13 : decode cJx4a65c_remove_915e3 13 = .ok (.astore_n 2, 1) := by decide +kernel
theorem dJx4a65c_remove_915e3_14 : decode cJx4a65c_remove_915e3 14 = .ok (.aload_n 2, 1) := by decide +kernel
theorem dJx4a65c_remove_915e3_15 : decode cJx4a65c_remove_915e3 15 = .ok (.iload_n 1, 1) := by decide +kernel
theorem dJx4a65c_remove_915e3_16 : decode cJx4a65c_remove_915e3 16 = .ok (.aaload, 1) := by decide +kernel
theorem dJx4a65c_remove_915e3_17 : decode cJx4a65c_remove_915e3 17 = .ok (.astore_n 3, 1) := by decide +kernel
theorem dJx4a65c_remove_915e3_18 : decode cJx4a65c_remove_915e3 18 = .ok (.aload_n 0, 1) := by decide +kernel
theorem dJx4a65c_remove_915e3_19 : decode cJx4a65c_remove_915e3 19 = .ok (.aload_n 2, 1) := by decide +kernel
theorem dJx4a65c_remove_915e3_20 : decode cJx4a65c_remove_915e3 20 = .ok (.iload_n 1, 1) := by decide +kernel
theorem dJx4a65c_remove_915e3_21 : decode cJx4a65c_remove_915e3 21 = .ok (.invokevirtual 144, 3) := by decide +kernel
theorem dJx4a65c_remove_915e3_24 : decode cJx4a65c_remove_915e3 24 = .ok (.aload_n 3, 1) := by decide +kernel
theorem dJx4a65c_remove_915e3_25 : decode cJx4a65c_remove_915e3 25 = .ok (.areturn, 1) := by decide +kernel
theorem dJx4a65c_fastRemove_b59b0_0 : decode cJx4a65c_fastRemove_b59b0 0 = .ok (.aload_n 0, 1) := by decide +kernel
theorem dJx4a65c_fastRemove_b59b0_1 : decode cJx4a65c_fastRemove_b59b0 1 = .ok (.dup, 1) := by decide +kernel
theorem dJx4a65c_fastRemove_b59b0_2 : decode cJx4a65c_fastRemove_b59b0 2 = .ok (.getfield 63, 3) := by decide +kernel
theorem dJx4a65c_fastRemove_b59b0_5 : decode cJx4a65c_fastRemove_b59b0 5 = .ok (.iconst 1, 1) := by decide +kernel
theorem dJx4a65c_fastRemove_b59b0_6 : decode cJx4a65c_fastRemove_b59b0 6 = .ok (.iadd, 1) := by decide +kernel
theorem dJx4a65c_fastRemove_b59b0_7 : decode cJx4a65c_fastRemove_b59b0 7 = .ok (.putfield 63, 3) := by decide +kernel
theorem dJx4a65c_fastRemove_b59b0_10 : decode cJx4a65c_fastRemove_b59b0 10 = .ok (.aload_n 0, 1) := by decide +kernel
theorem dJx4a65c_fastRemove_b59b0_11 : decode cJx4a65c_fastRemove_b59b0 11 = .ok (.getfield 48, 3) := by decide +kernel
theorem dJx4a65c_fastRemove_b59b0_14 : decode cJx4a65c_fastRemove_b59b0 14 = .ok (.iconst 1, 1) := by decide +kernel
theorem dJx4a65c_fastRemove_b59b0_15 : decode cJx4a65c_fastRemove_b59b0 15 = .ok (.isub, 1) := by decide +kernel
theorem dJx4a65c_fastRemove_b59b0_16 : decode cJx4a65c_fastRemove_b59b0 16 = .ok (.dup, 1) := by decide +kernel
theorem dJx4a65c_fastRemove_b59b0_17 : decode cJx4a65c_fastRemove_b59b0 17 = .ok (.istore_n 3, 1) := by decide +kernel
theorem dJx4a65c_fastRemove_b59b0_18 : decode cJx4a65c_fastRemove_b59b0 18 = .ok (.iload_n 2, 1) := by decide +kernel
theorem dJx4a65c_fastRemove_b59b0_19 : decode cJx4a65c_fastRemove_b59b0 19 = .ok (.if_icmp .le 15, 3) := by decide +kernel
theorem dJx4a65c_fastRemove_b59b0_22 : decode cJx4a65c_fastRemove_b59b0 22 = .ok (.aload_n 1, 1) := by decide +kernel
theorem dJx4a65c_fastRemove_b59b0_23 : decode cJx4a65c_fastRemove_b59b0 23 = .ok (.iload_n 2, 1) := by decide +kernel
theorem dJx4a65c_fastRemove_b59b0_24 : decode cJx4a65c_fastRemove_b59b0 24 = .ok (.iconst 1, 1) := by decide +kernel
theorem dJx4a65c_fastRemove_b59b0_25 : decode cJx4a65c_fastRemove_b59b0 25 = .ok (.iadd, 1) := by decide +kernel
theorem dJx4a65c_fastRemove_b59b0_26 : decode cJx4a65c_fastRemove_b59b0 26 = .ok (.aload_n 1, 1) := by decide +kernel
theorem dJx4a65c_fastRemove_b59b0_27 : decode cJx4a65c_fastRemove_b59b0 27 = .ok (.iload_n 2, 1) := by decide +kernel
theorem dJx4a65c_fastRemove_b59b0_28 : decode cJx4a65c_fastRemove_b59b0 28 = .ok (.iload_n 3, 1) := by decide +kernel
theorem dJx4a65c_fastRemove_b59b0_29 : decode cJx4a65c_fastRemove_b59b0 29 = .ok (.iload_n 2, 1) := by decide +kernel
theorem dJx4a65c_fastRemove_b59b0_30 : decode cJx4a65c_fastRemove_b59b0 30 = .ok (.isub, 1) := by decide +kernel
theorem dJx4a65c_fastRemove_b59b0_31 : decode cJx4a65c_fastRemove_b59b0 31 = .ok (.invokestatic 112, 3) := by decide +kernel
theorem dJx4a65c_fastRemove_b59b0_34 : decode cJx4a65c_fastRemove_b59b0 34 = .ok (.aload_n 1, 1) := by decide +kernel
theorem dJx4a65c_fastRemove_b59b0_35 : decode cJx4a65c_fastRemove_b59b0 35 = .ok (.aload_n 0, 1) := by decide +kernel
theorem dJx4a65c_fastRemove_b59b0_36 : decode cJx4a65c_fastRemove_b59b0 36 = .ok (.iload_n 3, 1) := by decide +kernel
theorem dJx4a65c_fastRemove_b59b0_37 : decode cJx4a65c_fastRemove_b59b0 37 = .ok (.dup_x1, 1) := by decide +kernel
theorem dJx4a65c_fastRemove_b59b0_38 : decode cJx4a65c_fastRemove_b59b0 38 = .ok (.putfield 48, 3) := by decide +kernel
theorem dJx4a65c_fastRemove_b59b0_41 : decode cJx4a65c_fastRemove_b59b0 41 = .ok (.aconst_null, 1) := by decide +kernel
theorem dJx4a65c_fastRemove_b59b0_42 : decode cJx4a65c_fastRemove_b59b0 42 = .ok (.aastore, 1) := by decide +kernel
theorem dJx4a65c_fastRemove_b59b0_43 : decode cJx4a65c_fastRemove_b59b0 43 = .ok (.return_, 1) := by decide +kernel
theorem dJ7_copyOf_1904c_0 : decode cJ7_copyOf_1904c 0 = .ok (.aload_n 0, 1) := by decide +kernel
theorem dJ7_copyOf_1904c_1 : decode cJ7_copyOf_1904c 1 = .ok (.iload_n 1, 1) := by decide +kernel
theorem dJ7_copyOf_1904c_2 : decode cJ7_copyOf_1904c 2 = .ok (.aload_n 0, 1) := by decide +kernel
theorem dJ7_copyOf_1904c_3 : decode cJ7_copyOf_1904c 3 = .ok (.invokevirtual 86, 3) := by decide +kernel
theorem dJ7_copyOf_1904c_6 : decode cJ7_copyOf_1904c 6 = .ok (.invokestatic 300, 3) := by decide +kernel
theorem dJ7_copyOf_1904c_9 : decode cJ7_copyOf_1904c 9 = .ok (.areturn, 1) := by decide +kernel
theorem dJ7_copyOf_6403c_0 : decode cJ7_copyOf_6403c 0 = .ok (.aload_n 2, 1) := by decide +kernel
theorem dJ7_copyOf_6403c_1 : decode cJ7_copyOf_6403c 1 = .ok (.ldc 110, 2) := by decide +kernel
theorem dJ7_copyOf_6403c_3 : decode cJ7_copyOf_6403c 3 = .ok (.if_acmp .ne 10, 3) := by decide +kernel
theorem dJ7_copyOf_6403c_6 : decode cJ7_copyOf_6403c 6 = .ok (.iload_n 1, 1) := by decide +kernel
theorem dJ7_copyOf_6403c_7 : decode cJ7_copyOf_6403c 7 = .ok (.anewarray 2, 3) := by decide +kernel
theorem dJ7_copyOf_6403c_10 : decode cJ7_copyOf_6403c 10 = .ok (.goto 14, 3) := by decide +kernel
theorem dJ7_copyOf_6403c_13 : decode cJ7_copyOf_6403c 13 = .ok (.aload_n 2, 1) := by decide +kernel
theorem dJ7_copyOf_6403c_14 : decode cJ7_copyOf_6403c 14 = .ok (.invokevirtual 90, 3) := by decide +kernel
theorem dJ7_copyOf_6403c_17 : decode cJ7_copyOf_6403c 17 = .ok (.iload_n 1, 1) := by decide +kernel
theorem dJ7_copyOf_6403c_18 : decode cJ7_copyOf_6403c 18 = .ok (.invokestatic 95, 3) := by decide +kernel
theorem dJ7_copyOf_6403c_21 : decode cJ7_copyOf_6403c 21 = .ok (.checkcast 110, 3) := by decide +kernel
theorem dJ7_copyOf_6403c_24 : decode cJ7_copyOf_6403c 24 = .ok (.astore_n 3, 1) := by decide +kernel
theorem dJ7_copyOf_6403c_25 : decode cJ7_copyOf_6403c 25 = .ok (.aload_n 0, 1) := by decide +kernel
theorem dJ7_copyOf_6403c_26 : decode cJ7_copyOf_6403c 26 = .ok (.iconst 0, 1) := by decide +kernel
theorem dJ7_copyOf_6403c_27 : decode cJ7_copyOf_6403c 27 = .ok (.aload_n 3, 1) := by decide +kernel
theorem dJ7_copyOf_6403c_28 : decode cJ7_copyOf_6403c 28 = .ok (.iconst 0, 1) := by decide +kernel
theorem dJ7_copyOf_6403c_29 : decode cJ7_copyOf_6403c 29 = .ok (.aload_n 0, 1) := by decide +kernel
theorem dJ7_copyOf_6403c_30 : decode cJ7_copyOf_6403c 30 = .ok (.arraylength, 1) := by decide +kernel
theorem dJ7_copyOf_6403c_31 : decode cJ7_copyOf_6403c 31 = .ok (.iload_n 1, 1) := by decide +kernel
theorem dJ7_copyOf_6403c_32 : decode cJ7_copyOf_6403c 32 = .ok (.invokestatic 304, 3) := by decide +kernel
theorem dJ7_copyOf_6403c_35 : decode cJ7_copyOf_6403c 35 = .ok (.invokestatic 150, 3) := by decide +kernel
theorem dJ7_copyOf_6403c_38 : decode cJ7_copyOf_6403c 38 = .ok (.aload_n 3, 1) := by decide +kernel
theorem dJ7_copyOf_6403c_39 : decode cJ7_copyOf_6403c 39 = .ok (.areturn, 1) := by decide +kernel
theorem dJ15_checkIndex_7cf53_0 : decode cJ15_checkIndex_7cf53 0 = .ok (.iload_n 0, 1) := by decide +kernel
theorem dJ15_checkIndex_7cf53_1 : decode cJ15_checkIndex_7cf53 1 = .ok (.iload_n 1, 1) := by decide +kernel
theorem dJ15_checkIndex_7cf53_2 : decode cJ15_checkIndex_7cf53 2 = .ok (.aconst_null, 1) := by decide +kernel
theorem dJ15_checkIndex_7cf53_3 : decode cJ15_checkIndex_7cf53 3 = .ok (.invokestatic 105, 3) := by decide +kernel
theorem dJ15_checkIndex_7cf53_6 : decode cJ15_checkIndex_7cf53 6 = .ok (.ireturn, 1) := by decide +kernel
theorem dJ8_newLength_cabcc_0 : decode cJ8_newLength_cabcc 0 = .ok (.iload_n 0, 1) := by decide +kernel
theorem dJ8_newLength_cabcc_1 : decode cJ8_newLength_cabcc 1 = .ok (.iload_n 1, 1) := by decide +kernel
theorem dJ8_newLength_cabcc_2 : decode cJ8_newLength_cabcc 2 = .ok (.iload_n 2, 1) := by decide +kernel
theorem dJ8_newLength_cabcc_3 : decode cJ8_newLength_cabcc 3 = .ok (.invokestatic 194, 3) := by decide +kernel
theorem dJ8_newLength_cabcc_6 : decode cJ8_newLength_cabcc 6 = .ok (.iadd, 1) := by decide +kernel
theorem dJ8_newLength_cabcc_7 : decode cJ8_newLength_cabcc 7 = .ok (.istore_n 3, 1) := by decide +kernel
theorem dJ8_newLength_cabcc_8 : decode cJ8_newLength_cabcc 8 = .ok (.iconst 0, 1) := by decide +kernel
theorem dJ8_newLength_cabcc_9 : decode cJ8_newLength_cabcc 9 = .ok (.iload_n 3, 1) := by decide +kernel
theorem dJ8_newLength_cabcc_10 : decode cJ8_newLength_cabcc 10 = .ok (.if_icmp .ge 11, 3) := by decide +kernel
theorem dJ8_newLength_cabcc_13 : decode cJ8_newLength_cabcc 13 = .ok (.iload_n 3, 1) := by decide +kernel
theorem dJ8_newLength_cabcc_14 : decode cJ8_newLength_cabcc 14 = .ok (.ldc 200, 2) := by decide +kernel
theorem dJ8_newLength_cabcc_16 : decode cJ8_newLength_cabcc 16 = .ok (.if_icmp .gt 5, 3) := by decide +kernel
theorem dJ8_newLength_cabcc_19 : decode cJ8_newLength_cabcc 19 = .ok (.iload_n 3, 1) := by decide +kernel
theorem dJ8_newLength_cabcc_20 : decode cJ8_newLength_cabcc 20 = .ok (.ireturn, 1) := by decide +kernel
theorem dJ8_newLength_cabcc_21 : decode cJ8_newLength_cabcc 21 = .ok (.iload_n 0, 1) := by decide +kernel
theorem dJ8_newLength_cabcc_22 : decode cJ8_newLength_cabcc 22 = .ok (.iload_n 1, 1) := by decide +kernel
theorem dJ8_newLength_cabcc_23 : decode cJ8_newLength_cabcc 23 = .ok (.invokestatic 201, 3) := by decide +kernel
theorem dJ8_newLength_cabcc_26 : decode cJ8_newLength_cabcc 26 = .ok (.ireturn, 1) := by decide +kernel
theorem dJ8_hugeLength_7cf53_0 : decode cJ8_hugeLength_7cf53 0 = .ok (.iload_n 0, 1) := by decide +kernel
theorem dJ8_hugeLength_7cf53_1 : decode cJ8_hugeLength_7cf53 1 = .ok (.iload_n 1, 1) := by decide +kernel
theorem dJ8_hugeLength_7cf53_2 : decode cJ8_hugeLength_7cf53 2 = .ok (.iadd, 1) := by decide +kernel
theorem dJ8_hugeLength_7cf53_3 : decode cJ8_hugeLength_7cf53 3 = .ok (.istore_n 2, 1) := by decide +kernel
theorem dJ8_hugeLength_7cf53_4 : decode cJ8_hugeLength_7cf53 4 = .ok (.iload_n 2, 1) := by decide +kernel
theorem dJ8_hugeLength_7cf53_5 : decode cJ8_hugeLength_7cf53 5 = .ok (.ifCond .ge 44, 3) := by decide +kernel
theorem dJ8_hugeLength_7cf53_8 : decode cJ8_hugeLength_7cf53 8 = .ok (.new 204, 3) := by decide +kernel
theorem dJ8_hugeLength_7cf53_11 : decode cJ8_hugeLength_7cf53 11 = .ok (.dup, 1) := by decide +kernel
theorem dJ8_hugeLength_7cf53_12 : decode cJ8_hugeLength_7cf53 12 = .ok (.new 89, 3) := by decide +kernel
theorem dJ8_hugeLength_7cf53_15 : decode cJ8_hugeLength_7cf53 15 = .ok (.dup, 1) := by decide +kernel
theorem dJ8_hugeLength_7cf53_16 : decode cJ8_hugeLength_7cf53 16 = .ok (.invokespecial 91, 3) := by decide +kernel
theorem dJ8_hugeLength_7cf53_19 : decode cJ8_hugeLength_7cf53 19 = .ok (.ldc 206, 2) := by decide +kernel
theorem dJ8_hugeLength_7cf53_21 : decode cJ8_hugeLength_7cf53 21 = .ok (.invokevirtual 94, 3) := by decide +kernel
theorem dJ8_hugeLength_7cf53_24 : decode cJ8_hugeLength_7cf53 24 = .ok (.iload_n 0, 1) := by decide +kernel
theorem dJ8_hugeLength_7cf53_25 : decode cJ8_hugeLength_7cf53 25 = .ok (.invokevirtual 98, 3) := by decide +kernel
theorem dJ8_hugeLength_7cf53_28 : decode cJ8_hugeLength_7cf53 28 = .ok (.ldc 208, 2) := by decide +kernel
theorem dJ8_hugeLength_7cf53_30 : decode cJ8_hugeLength_7cf53 30 = .ok (.invokevirtual 94, 3) := by decide +kernel
theorem dJ8_hugeLength_7cf53_33 : decode cJ8_hugeLength_7cf53 33 = .ok (.iload_n 1, 1) := by decide +kernel
theorem dJ8_hugeLength_7cf53_34 : decode cJ8_hugeLength_7cf53 34 = .ok (.invokevirtual 98, 3) := by decide +kernel
theorem dJ8_hugeLength_7cf53_37 : decode cJ8_hugeLength_7cf53 37 = .ok (.ldc 210, 2) := by decide +kernel
theorem dJ8_hugeLength_7cf53_39 : decode cJ8_hugeLength_7cf53 39 = .ok (.invokevirtual 94, 3) := by decide +kernel
theorem dJ8_hugeLength_7cf53_42 : decode cJ8_hugeLength_7cf53 42 = .ok (.invokevirtual 101, 3) := by decide +kernel
theorem dJ8_hugeLength_7cf53_45 : decode cJ8_hugeLength_7cf53 45 = .ok (.invokespecial 212, 3) := by decide +kernel
theorem dJ8_hugeLength_7cf53_48 : decode cJ8_hugeLength_7cf53 48 = .ok (.athrow, 1) := by decide +kernel
theorem dJ8_hugeLength_7cf53_49 : decode cJ8_hugeLength_7cf53 49 = .ok (.iload_n 2, 1) := by decide +kernel
theorem dJ8_hugeLength_7cf53_50 : decode cJ8_hugeLength_7cf53 50 = .ok (.ldc 200, 2) := by decide +kernel
theorem dJ8_hugeLength_7cf53_52 : decode cJ8_hugeLength_7cf53 52 = .ok (.if_icmp .gt 6, 3) := by decide +kernel
theorem dJ8_hugeLength_7cf53_55 : decode cJ8_hugeLength_7cf53 55 = .ok (.ldc 200, 2) := by decide +kernel
theorem dJ8_hugeLength_7cf53_57 : decode cJ8_hugeLength_7cf53 57 = .ok (.ireturn, 1) := by decide +kernel
theorem dJ8_hugeLength_7cf53_58 : decode cJ8_hugeLength_7cf53 58 = .ok (.iload_n 2, 1) := by decide +kernel
theorem dJ8_hugeLength_7cf53_59 : decode cJ8_hugeLength_7cf53 59 = .ok (.ireturn, 1) := by decide +kernel
theorem dJ3_checkIndex_8e157_0 : decode cJ3_checkIndex_8e157 0 = .ok (.iload_n 0, 1) := by decide +kernel
theorem dJ3_checkIndex_8e157_1 : decode cJ3_checkIndex_8e157 1 = .ok (.ifCond .lt 8, 3) := by decide +kernel
theorem dJ3_checkIndex_8e157_4 : decode cJ3_checkIndex_8e157 4 = .ok (.iload_n 0, 1) := by decide +kernel
theorem dJ3_checkIndex_8e157_5 : decode cJ3_checkIndex_8e157 5 = .ok (.iload_n 1, 1) := by decide +kernel
theorem dJ3_checkIndex_8e157_6 : decode cJ3_checkIndex_8e157 6 = .ok (.if_icmp .lt 10, 3) := by decide +kernel
theorem dJ3_checkIndex_8e157_9 : decode cJ3_checkIndex_8e157 9 = .ok (.aload_n 2, 1) := by decide +kernel
theorem dJ3_checkIndex_8e157_10 : decode cJ3_checkIndex_8e157 10 = .ok (.iload_n 0, 1) := by decide +kernel
theorem dJ3_checkIndex_8e157_11 : decode cJ3_checkIndex_8e157 11 = .ok (.iload_n 1, 1) := by decide +kernel
theorem dJ3_checkIndex_8e157_12 : decode cJ3_checkIndex_8e157 12 = .ok (.invokestatic 95, 3) := by decide +kernel
theorem dJ3_checkIndex_8e157_15 : decode cJ3_checkIndex_8e157 15 = .ok (.athrow, 1) := by decide +kernel
theorem dJ3_checkIndex_8e157_16 : decode cJ3_checkIndex_8e157 16 = .ok (.iload_n 0, 1) := by decide +kernel
theorem dJ3_checkIndex_8e157_17 : decode cJ3_checkIndex_8e157 17 = .ok (.ireturn, 1) := by decide +kernel
theorem dL_pay_0 : decode cL_pay 0 = .ok (.aload_n 3, 1) := by decide +kernel
theorem dL_pay_1 : decode cL_pay 1 = .ok (.iconst 0, 1) := by decide +kernel
theorem dL_pay_2 : decode cL_pay 2 = .ok (.aload_n 0, 1) := by decide +kernel
theorem dL_pay_3 : decode cL_pay 3 = .ok (.iload_n 1, 1) := by decide +kernel
theorem dL_pay_4 : decode cL_pay 4 = .ok (.iload_n 2, 1) := by decide +kernel
theorem dL_pay_5 : decode cL_pay 5 = .ok (.invokevirtual 7, 3) := by decide +kernel
theorem dL_pay_8 : decode cL_pay 8 = .ok (.i2l, 1) := by decide +kernel
theorem dL_pay_9 : decode cL_pay 9 = .ok (.lastore, 1) := by decide +kernel
theorem dL_pay_10 : decode cL_pay 10 = .ok (.goto 15, 3) := by decide +kernel
theorem dL_pay_13 : decode cL_pay 13 = .ok (.astore 4, 2) := by decide +kernel
theorem dL_pay_15 : decode cL_pay 15 = .ok (.iconst 1, 1) := by decide +kernel
theorem dL_pay_16 : decode cL_pay 16 = .ok (.ireturn, 1) := by decide +kernel
theorem dL_pay_17 : decode cL_pay 17 = .ok (.astore 4, 2) := by decide +kernel
theorem dL_pay_19 : decode cL_pay 19 = .ok (.iconst 2, 1) := by decide +kernel
theorem dL_pay_20 : decode cL_pay 20 = .ok (.ireturn, 1) := by decide +kernel
theorem dL_pay_21 : decode cL_pay 21 = .ok (.astore 4, 2) := by decide +kernel
theorem dL_pay_23 : decode cL_pay 23 = .ok (.iconst 3, 1) := by decide +kernel
theorem dL_pay_24 : decode cL_pay 24 = .ok (.ireturn, 1) := by decide +kernel
theorem dL_pay_25 : decode cL_pay 25 = .ok (.iconst 0, 1) := by decide +kernel
theorem dL_pay_26 : decode cL_pay 26 = .ok (.ireturn, 1) := by decide +kernel
theorem dL_setStreet_0 : decode cL_setStreet 0 = .ok (.aload 4, 2) := by decide +kernel
theorem dL_setStreet_2 : decode cL_setStreet 2 = .ok (.iconst 0, 1) := by decide +kernel
theorem dL_setStreet_3 : decode cL_setStreet 3 = .ok (.aload_n 0, 1) := by decide +kernel
theorem dL_setStreet_4 : decode cL_setStreet 4 = .ok (.iload_n 1, 1) := by decide +kernel
theorem dL_setStreet_5 : decode cL_setStreet 5 = .ok (.iload_n 2, 1) := by decide +kernel
theorem dL_setStreet_6 : decode cL_setStreet 6 = .ok (.iload_n 3, 1) := by decide +kernel
theorem dL_setStreet_7 : decode cL_setStreet 7 = .ok (.invokevirtual 19, 3) := by decide +kernel
theorem dL_setStreet_10 : decode cL_setStreet 10 = .ok (.i2l, 1) := by decide +kernel
theorem dL_setStreet_11 : decode cL_setStreet 11 = .ok (.lastore, 1) := by decide +kernel
theorem dL_setStreet_12 : decode cL_setStreet 12 = .ok (.goto 11, 3) := by decide +kernel
theorem dL_setStreet_15 : decode cL_setStreet 15 = .ok (.astore 5, 2) := by decide +kernel
theorem dL_setStreet_17 : decode cL_setStreet 17 = .ok (.iconst 1, 1) := by decide +kernel
theorem dL_setStreet_18 : decode cL_setStreet 18 = .ok (.ireturn, 1) := by decide +kernel
theorem dL_setStreet_19 : decode cL_setStreet 19 = .ok (.astore 5, 2) := by decide +kernel
theorem dL_setStreet_21 : decode cL_setStreet 21 = .ok (.iconst 2, 1) := by decide +kernel
theorem dL_setStreet_22 : decode cL_setStreet 22 = .ok (.ireturn, 1) := by decide +kernel
theorem dL_setStreet_23 : decode cL_setStreet 23 = .ok (.iconst 0, 1) := by decide +kernel
theorem dL_setStreet_24 : decode cL_setStreet 24 = .ok (.ireturn, 1) := by decide +kernel
theorem dL_vote_0 : decode cL_vote 0 = .ok (.aload 4, 2) := by decide +kernel
theorem dL_vote_2 : decode cL_vote 2 = .ok (.iconst 0, 1) := by decide +kernel
theorem dL_vote_3 : decode cL_vote 3 = .ok (.aload_n 0, 1) := by decide +kernel
theorem dL_vote_4 : decode cL_vote 4 = .ok (.iload_n 1, 1) := by decide +kernel
theorem dL_vote_5 : decode cL_vote 5 = .ok (.iload_n 2, 1) := by decide +kernel
theorem dL_vote_6 : decode cL_vote 6 = .ok (.iload_n 3, 1) := by decide +kernel
theorem dL_vote_7 : decode cL_vote 7 = .ok (.invokevirtual 23, 3) := by decide +kernel
theorem dL_vote_10 : decode cL_vote 10 = .ok (.i2l, 1) := by decide +kernel
theorem dL_vote_11 : decode cL_vote 11 = .ok (.lastore, 1) := by decide +kernel
theorem dL_vote_12 : decode cL_vote 12 = .ok (.goto 11, 3) := by decide +kernel
theorem dL_vote_15 : decode cL_vote 15 = .ok (.astore 5, 2) := by decide +kernel
theorem dL_vote_17 : decode cL_vote 17 = .ok (.iconst 1, 1) := by decide +kernel
theorem dL_vote_18 : decode cL_vote 18 = .ok (.ireturn, 1) := by decide +kernel
theorem dL_vote_19 : decode cL_vote 19 = .ok (.astore 5, 2) := by decide +kernel
theorem dL_vote_21 : decode cL_vote 21 = .ok (.iconst 2, 1) := by decide +kernel
theorem dL_vote_22 : decode cL_vote 22 = .ok (.ireturn, 1) := by decide +kernel
theorem dL_vote_23 : decode cL_vote 23 = .ok (.iconst 0, 1) := by decide +kernel
theorem dL_vote_24 : decode cL_vote 24 = .ok (.ireturn, 1) := by decide +kernel
theorem dL_place_0 : decode cL_place 0 = .ok (.aload_n 3, 1) := by decide +kernel
theorem dL_place_1 : decode cL_place 1 = .ok (.iconst 0, 1) := by decide +kernel
theorem dL_place_2 : decode cL_place 2 = .ok (.aload_n 0, 1) := by decide +kernel
theorem dL_place_3 : decode cL_place 3 = .ok (.iload_n 1, 1) := by decide +kernel
theorem dL_place_4 : decode cL_place 4 = .ok (.iload_n 2, 1) := by decide +kernel
theorem dL_place_5 : decode cL_place 5 = .ok (.invokevirtual 27, 3) := by decide +kernel
theorem dL_place_8 : decode cL_place 8 = .ok (.i2l, 1) := by decide +kernel
theorem dL_place_9 : decode cL_place 9 = .ok (.lastore, 1) := by decide +kernel
theorem dL_place_10 : decode cL_place 10 = .ok (.goto 11, 3) := by decide +kernel
theorem dL_place_13 : decode cL_place 13 = .ok (.astore 4, 2) := by decide +kernel
theorem dL_place_15 : decode cL_place 15 = .ok (.iconst 1, 1) := by decide +kernel
theorem dL_place_16 : decode cL_place 16 = .ok (.ireturn, 1) := by decide +kernel
theorem dL_place_17 : decode cL_place 17 = .ok (.astore 4, 2) := by decide +kernel
theorem dL_place_19 : decode cL_place 19 = .ok (.iconst 2, 1) := by decide +kernel
theorem dL_place_20 : decode cL_place 20 = .ok (.ireturn, 1) := by decide +kernel
theorem dL_place_21 : decode cL_place 21 = .ok (.iconst 0, 1) := by decide +kernel
theorem dL_place_22 : decode cL_place 22 = .ok (.ireturn, 1) := by decide +kernel
theorem dL_ask_0 : decode cL_ask 0 = .ok (.aload_n 3, 1) := by decide +kernel
theorem dL_ask_1 : decode cL_ask 1 = .ok (.iconst 0, 1) := by decide +kernel
theorem dL_ask_2 : decode cL_ask 2 = .ok (.aload_n 0, 1) := by decide +kernel
theorem dL_ask_3 : decode cL_ask 3 = .ok (.iload_n 1, 1) := by decide +kernel
theorem dL_ask_4 : decode cL_ask 4 = .ok (.iload_n 2, 1) := by decide +kernel
theorem dL_ask_5 : decode cL_ask 5 = .ok (.invokevirtual 30, 3) := by decide +kernel
theorem dL_ask_8 : decode cL_ask 8 = .ok (.i2l, 1) := by decide +kernel
theorem dL_ask_9 : decode cL_ask 9 = .ok (.lastore, 1) := by decide +kernel
theorem dL_ask_10 : decode cL_ask 10 = .ok (.goto 15, 3) := by decide +kernel
theorem dL_ask_13 : decode cL_ask 13 = .ok (.astore 4, 2) := by decide +kernel
theorem dL_ask_15 : decode cL_ask 15 = .ok (.iconst 1, 1) := by decide +kernel
theorem dL_ask_16 : decode cL_ask 16 = .ok (.ireturn, 1) := by decide +kernel
theorem dL_ask_17 : decode cL_ask 17 = .ok (.astore 4, 2) := by decide +kernel
theorem dL_ask_19 : decode cL_ask 19 = .ok (.iconst 2, 1) := by decide +kernel
theorem dL_ask_20 : decode cL_ask 20 = .ok (.ireturn, 1) := by decide +kernel
theorem dL_ask_21 : decode cL_ask 21 = .ok (.astore 4, 2) := by decide +kernel
theorem dL_ask_23 : decode cL_ask 23 = .ok (.iconst 3, 1) := by decide +kernel
theorem dL_ask_24 : decode cL_ask 24 = .ok (.ireturn, 1) := by decide +kernel
theorem dL_ask_25 : decode cL_ask 25 = .ok (.iconst 0, 1) := by decide +kernel
theorem dL_ask_26 : decode cL_ask 26 = .ok (.ireturn, 1) := by decide +kernel
theorem dL_pass_0 : decode cL_pass 0 = .ok (.aload_n 2, 1) := by decide +kernel
theorem dL_pass_1 : decode cL_pass 1 = .ok (.iconst 0, 1) := by decide +kernel
theorem dL_pass_2 : decode cL_pass 2 = .ok (.aload_n 0, 1) := by decide +kernel
theorem dL_pass_3 : decode cL_pass 3 = .ok (.iload_n 1, 1) := by decide +kernel
theorem dL_pass_4 : decode cL_pass 4 = .ok (.invokevirtual 33, 3) := by decide +kernel
theorem dL_pass_7 : decode cL_pass 7 = .ok (.i2l, 1) := by decide +kernel
theorem dL_pass_8 : decode cL_pass 8 = .ok (.lastore, 1) := by decide +kernel
theorem dL_pass_9 : decode cL_pass 9 = .ok (.goto 9, 3) := by decide +kernel
theorem dL_pass_12 : decode cL_pass 12 = .ok (.astore_n 3, 1) := by decide +kernel
theorem dL_pass_13 : decode cL_pass 13 = .ok (.iconst 1, 1) := by decide +kernel
theorem dL_pass_14 : decode cL_pass 14 = .ok (.ireturn, 1) := by decide +kernel
theorem dL_pass_15 : decode cL_pass 15 = .ok (.astore_n 3, 1) := by decide +kernel
theorem dL_pass_16 : decode cL_pass 16 = .ok (.iconst 2, 1) := by decide +kernel
theorem dL_pass_17 : decode cL_pass 17 = .ok (.ireturn, 1) := by decide +kernel
theorem dL_pass_18 : decode cL_pass 18 = .ok (.iconst 0, 1) := by decide +kernel
theorem dL_pass_19 : decode cL_pass 19 = .ok (.ireturn, 1) := by decide +kernel
theorem dL_night_0 : decode cL_night 0 = .ok (.aload_n 1, 1) := by decide +kernel
theorem dL_night_1 : decode cL_night 1 = .ok (.iconst 0, 1) := by decide +kernel
theorem dL_night_2 : decode cL_night 2 = .ok (.aload_n 0, 1) := by decide +kernel
theorem dL_night_3 : decode cL_night 3 = .ok (.invokevirtual 37, 3) := by decide +kernel
theorem dL_night_6 : decode cL_night 6 = .ok (.i2l, 1) := by decide +kernel
theorem dL_night_7 : decode cL_night 7 = .ok (.lastore, 1) := by decide +kernel
theorem dL_night_8 : decode cL_night 8 = .ok (.goto 6, 3) := by decide +kernel
theorem dL_night_11 : decode cL_night 11 = .ok (.astore_n 2, 1) := by decide +kernel
theorem dL_night_12 : decode cL_night 12 = .ok (.iconst 1, 1) := by decide +kernel
theorem dL_night_13 : decode cL_night 13 = .ok (.ireturn, 1) := by decide +kernel
theorem dL_night_14 : decode cL_night 14 = .ok (.iconst 0, 1) := by decide +kernel
theorem dL_night_15 : decode cL_night 15 = .ok (.ireturn, 1) := by decide +kernel
theorem dL_complain_0 : decode cL_complain 0 = .ok (.aload_n 3, 1) := by decide +kernel
theorem dL_complain_1 : decode cL_complain 1 = .ok (.iconst 0, 1) := by decide +kernel
theorem dL_complain_2 : decode cL_complain 2 = .ok (.aload_n 0, 1) := by decide +kernel
theorem dL_complain_3 : decode cL_complain 3 = .ok (.iload_n 1, 1) := by decide +kernel
theorem dL_complain_4 : decode cL_complain 4 = .ok (.iload_n 2, 1) := by decide +kernel
theorem dL_complain_5 : decode cL_complain 5 = .ok (.invokevirtual 41, 3) := by decide +kernel
theorem dL_complain_8 : decode cL_complain 8 = .ok (.i2l, 1) := by decide +kernel
theorem dL_complain_9 : decode cL_complain 9 = .ok (.lastore, 1) := by decide +kernel
theorem dL_complain_10 : decode cL_complain 10 = .ok (.goto 11, 3) := by decide +kernel
theorem dL_complain_13 : decode cL_complain 13 = .ok (.astore 4, 2) := by decide +kernel
theorem dL_complain_15 : decode cL_complain 15 = .ok (.iconst 1, 1) := by decide +kernel
theorem dL_complain_16 : decode cL_complain 16 = .ok (.ireturn, 1) := by decide +kernel
theorem dL_complain_17 : decode cL_complain 17 = .ok (.astore 4, 2) := by decide +kernel
theorem dL_complain_19 : decode cL_complain 19 = .ok (.iconst 2, 1) := by decide +kernel
theorem dL_complain_20 : decode cL_complain 20 = .ok (.ireturn, 1) := by decide +kernel
theorem dL_complain_21 : decode cL_complain 21 = .ok (.iconst 0, 1) := by decide +kernel
theorem dL_complain_22 : decode cL_complain 22 = .ok (.ireturn, 1) := by decide +kernel
theorem dL_purse_0 : decode cL_purse 0 = .ok (.aload_n 2, 1) := by decide +kernel
theorem dL_purse_1 : decode cL_purse 1 = .ok (.iconst 0, 1) := by decide +kernel
theorem dL_purse_2 : decode cL_purse 2 = .ok (.aload_n 0, 1) := by decide +kernel
theorem dL_purse_3 : decode cL_purse 3 = .ok (.iload_n 1, 1) := by decide +kernel
theorem dL_purse_4 : decode cL_purse 4 = .ok (.invokevirtual 45, 3) := by decide +kernel
theorem dL_purse_7 : decode cL_purse 7 = .ok (.i2l, 1) := by decide +kernel
theorem dL_purse_8 : decode cL_purse 8 = .ok (.lastore, 1) := by decide +kernel
theorem dL_purse_9 : decode cL_purse 9 = .ok (.goto 6, 3) := by decide +kernel
theorem dL_purse_12 : decode cL_purse 12 = .ok (.astore_n 3, 1) := by decide +kernel
theorem dL_purse_13 : decode cL_purse 13 = .ok (.iconst 1, 1) := by decide +kernel
theorem dL_purse_14 : decode cL_purse 14 = .ok (.ireturn, 1) := by decide +kernel
theorem dL_purse_15 : decode cL_purse 15 = .ok (.iconst 0, 1) := by decide +kernel
theorem dL_purse_16 : decode cL_purse 16 = .ok (.ireturn, 1) := by decide +kernel
theorem dL_state_0 : decode cL_state 0 = .ok (.aload_n 2, 1) := by decide +kernel
theorem dL_state_1 : decode cL_state 1 = .ok (.iconst 0, 1) := by decide +kernel
theorem dL_state_2 : decode cL_state 2 = .ok (.aload_n 0, 1) := by decide +kernel
theorem dL_state_3 : decode cL_state 3 = .ok (.iload_n 1, 1) := by decide +kernel
theorem dL_state_4 : decode cL_state 4 = .ok (.invokevirtual 48, 3) := by decide +kernel
theorem dL_state_7 : decode cL_state 7 = .ok (.i2l, 1) := by decide +kernel
theorem dL_state_8 : decode cL_state 8 = .ok (.lastore, 1) := by decide +kernel
theorem dL_state_9 : decode cL_state 9 = .ok (.goto 6, 3) := by decide +kernel
theorem dL_state_12 : decode cL_state 12 = .ok (.astore_n 3, 1) := by decide +kernel
theorem dL_state_13 : decode cL_state 13 = .ok (.iconst 1, 1) := by decide +kernel
theorem dL_state_14 : decode cL_state 14 = .ok (.ireturn, 1) := by decide +kernel
theorem dL_state_15 : decode cL_state 15 = .ok (.iconst 0, 1) := by decide +kernel
theorem dL_state_16 : decode cL_state 16 = .ok (.ireturn, 1) := by decide +kernel
theorem dL_escortOf_0 : decode cL_escortOf 0 = .ok (.aload_n 2, 1) := by decide +kernel
theorem dL_escortOf_1 : decode cL_escortOf 1 = .ok (.iconst 0, 1) := by decide +kernel
theorem dL_escortOf_2 : decode cL_escortOf 2 = .ok (.aload_n 0, 1) := by decide +kernel
theorem dL_escortOf_3 : decode cL_escortOf 3 = .ok (.iload_n 1, 1) := by decide +kernel
theorem dL_escortOf_4 : decode cL_escortOf 4 = .ok (.invokevirtual 51, 3) := by decide +kernel
theorem dL_escortOf_7 : decode cL_escortOf 7 = .ok (.i2l, 1) := by decide +kernel
theorem dL_escortOf_8 : decode cL_escortOf 8 = .ok (.lastore, 1) := by decide +kernel
theorem dL_escortOf_9 : decode cL_escortOf 9 = .ok (.goto 6, 3) := by decide +kernel
theorem dL_escortOf_12 : decode cL_escortOf 12 = .ok (.astore_n 3, 1) := by decide +kernel
theorem dL_escortOf_13 : decode cL_escortOf 13 = .ok (.iconst 1, 1) := by decide +kernel
theorem dL_escortOf_14 : decode cL_escortOf 14 = .ok (.ireturn, 1) := by decide +kernel
theorem dL_escortOf_15 : decode cL_escortOf 15 = .ok (.iconst 0, 1) := by decide +kernel
theorem dL_escortOf_16 : decode cL_escortOf 16 = .ok (.ireturn, 1) := by decide +kernel
theorem dL_dark_0 : decode cL_dark 0 = .ok (.aload_n 2, 1) := by decide +kernel
theorem dL_dark_1 : decode cL_dark 1 = .ok (.iconst 0, 1) := by decide +kernel
theorem dL_dark_2 : decode cL_dark 2 = .ok (.aload_n 0, 1) := by decide +kernel
theorem dL_dark_3 : decode cL_dark 3 = .ok (.iload_n 1, 1) := by decide +kernel
theorem dL_dark_4 : decode cL_dark 4 = .ok (.invokevirtual 54, 3) := by decide +kernel
theorem dL_dark_7 : decode cL_dark 7 = .ok (.i2l, 1) := by decide +kernel
theorem dL_dark_8 : decode cL_dark 8 = .ok (.lastore, 1) := by decide +kernel
theorem dL_dark_9 : decode cL_dark 9 = .ok (.goto 6, 3) := by decide +kernel
theorem dL_dark_12 : decode cL_dark 12 = .ok (.astore_n 3, 1) := by decide +kernel
theorem dL_dark_13 : decode cL_dark 13 = .ok (.iconst 1, 1) := by decide +kernel
theorem dL_dark_14 : decode cL_dark 14 = .ok (.ireturn, 1) := by decide +kernel
theorem dL_dark_15 : decode cL_dark 15 = .ok (.iconst 0, 1) := by decide +kernel
theorem dL_dark_16 : decode cL_dark 16 = .ok (.ireturn, 1) := by decide +kernel
theorem dL_streetOf_0 : decode cL_streetOf 0 = .ok (.aload_n 2, 1) := by decide +kernel
theorem dL_streetOf_1 : decode cL_streetOf 1 = .ok (.iconst 0, 1) := by decide +kernel
theorem dL_streetOf_2 : decode cL_streetOf 2 = .ok (.aload_n 0, 1) := by decide +kernel
theorem dL_streetOf_3 : decode cL_streetOf 3 = .ok (.iload_n 1, 1) := by decide +kernel
theorem dL_streetOf_4 : decode cL_streetOf 4 = .ok (.invokevirtual 57, 3) := by decide +kernel
theorem dL_streetOf_7 : decode cL_streetOf 7 = .ok (.i2l, 1) := by decide +kernel
theorem dL_streetOf_8 : decode cL_streetOf 8 = .ok (.lastore, 1) := by decide +kernel
theorem dL_streetOf_9 : decode cL_streetOf 9 = .ok (.goto 6, 3) := by decide +kernel
theorem dL_streetOf_12 : decode cL_streetOf 12 = .ok (.astore_n 3, 1) := by decide +kernel
theorem dL_streetOf_13 : decode cL_streetOf 13 = .ok (.iconst 1, 1) := by decide +kernel
theorem dL_streetOf_14 : decode cL_streetOf 14 = .ok (.ireturn, 1) := by decide +kernel
theorem dL_streetOf_15 : decode cL_streetOf 15 = .ok (.iconst 0, 1) := by decide +kernel
theorem dL_streetOf_16 : decode cL_streetOf 16 = .ok (.ireturn, 1) := by decide +kernel
theorem dL_rank_0 : decode cL_rank 0 = .ok (.aload_n 2, 1) := by decide +kernel
theorem dL_rank_1 : decode cL_rank 1 = .ok (.iconst 0, 1) := by decide +kernel
theorem dL_rank_2 : decode cL_rank 2 = .ok (.aload_n 0, 1) := by decide +kernel
theorem dL_rank_3 : decode cL_rank 3 = .ok (.iload_n 1, 1) := by decide +kernel
theorem dL_rank_4 : decode cL_rank 4 = .ok (.invokevirtual 60, 3) := by decide +kernel
theorem dL_rank_7 : decode cL_rank 7 = .ok (.i2l, 1) := by decide +kernel
theorem dL_rank_8 : decode cL_rank 8 = .ok (.lastore, 1) := by decide +kernel
theorem dL_rank_9 : decode cL_rank 9 = .ok (.goto 6, 3) := by decide +kernel
theorem dL_rank_12 : decode cL_rank 12 = .ok (.astore_n 3, 1) := by decide +kernel
theorem dL_rank_13 : decode cL_rank 13 = .ok (.iconst 1, 1) := by decide +kernel
theorem dL_rank_14 : decode cL_rank 14 = .ok (.ireturn, 1) := by decide +kernel
theorem dL_rank_15 : decode cL_rank 15 = .ok (.iconst 0, 1) := by decide +kernel
theorem dL_rank_16 : decode cL_rank 16 = .ok (.ireturn, 1) := by decide +kernel
theorem dL_way_0 : decode cL_way 0 = .ok (.aload_n 3, 1) := by decide +kernel
theorem dL_way_1 : decode cL_way 1 = .ok (.iconst 0, 1) := by decide +kernel
theorem dL_way_2 : decode cL_way 2 = .ok (.aload_n 0, 1) := by decide +kernel
theorem dL_way_3 : decode cL_way 3 = .ok (.iload_n 1, 1) := by decide +kernel
theorem dL_way_4 : decode cL_way 4 = .ok (.iload_n 2, 1) := by decide +kernel
theorem dL_way_5 : decode cL_way 5 = .ok (.invokevirtual 63, 3) := by decide +kernel
theorem dL_way_8 : decode cL_way 8 = .ok (.i2l, 1) := by decide +kernel
theorem dL_way_9 : decode cL_way 9 = .ok (.lastore, 1) := by decide +kernel
theorem dL_way_10 : decode cL_way 10 = .ok (.goto 7, 3) := by decide +kernel
theorem dL_way_13 : decode cL_way 13 = .ok (.astore 4, 2) := by decide +kernel
theorem dL_way_15 : decode cL_way 15 = .ok (.iconst 1, 1) := by decide +kernel
theorem dL_way_16 : decode cL_way 16 = .ok (.ireturn, 1) := by decide +kernel
theorem dL_way_17 : decode cL_way 17 = .ok (.iconst 0, 1) := by decide +kernel
theorem dL_way_18 : decode cL_way 18 = .ok (.ireturn, 1) := by decide +kernel
theorem dL_shows_0 : decode cL_shows 0 = .ok (.aload 4, 2) := by decide +kernel
theorem dL_shows_2 : decode cL_shows 2 = .ok (.iconst 0, 1) := by decide +kernel
theorem dL_shows_3 : decode cL_shows 3 = .ok (.aload_n 0, 1) := by decide +kernel
theorem dL_shows_4 : decode cL_shows 4 = .ok (.iload_n 1, 1) := by decide +kernel
theorem dL_shows_5 : decode cL_shows 5 = .ok (.iload_n 2, 1) := by decide +kernel
theorem dL_shows_6 : decode cL_shows 6 = .ok (.iload_n 3, 1) := by decide +kernel
theorem dL_shows_7 : decode cL_shows 7 = .ok (.invokevirtual 66, 3) := by decide +kernel
theorem dL_shows_10 : decode cL_shows 10 = .ok (.ifCond .eq 7, 3) := by decide +kernel
theorem dL_shows_13 : decode cL_shows 13 = .ok (.lconst 1, 1) := by decide +kernel
theorem dL_shows_14 : decode cL_shows 14 = .ok (.goto 4, 3) := by decide +kernel
theorem dL_shows_17 : decode cL_shows 17 = .ok (.lconst 0, 1) := by decide +kernel
theorem dL_shows_18 : decode cL_shows 18 = .ok (.lastore, 1) := by decide +kernel
theorem dL_shows_19 : decode cL_shows 19 = .ok (.goto 7, 3) := by decide +kernel
theorem dL_shows_22 : decode cL_shows 22 = .ok (.astore 5, 2) := by decide +kernel
theorem dL_shows_24 : decode cL_shows 24 = .ok (.iconst 1, 1) := by decide +kernel
theorem dL_shows_25 : decode cL_shows 25 = .ok (.ireturn, 1) := by decide +kernel
theorem dL_shows_26 : decode cL_shows 26 = .ok (.iconst 0, 1) := by decide +kernel
theorem dL_shows_27 : decode cL_shows 27 = .ok (.ireturn, 1) := by decide +kernel
theorem dL_showsByPapers_0 : decode cL_showsByPapers 0 = .ok (.aload 4, 2) := by decide +kernel
theorem dL_showsByPapers_2 : decode cL_showsByPapers 2 = .ok (.iconst 0, 1) := by decide +kernel
theorem dL_showsByPapers_3 : decode cL_showsByPapers 3 = .ok (.aload_n 0, 1) := by decide +kernel
theorem dL_showsByPapers_4 : decode cL_showsByPapers 4 = .ok (.iload_n 1, 1) := by decide +kernel
theorem dL_showsByPapers_5 : decode cL_showsByPapers 5 = .ok (.iload_n 2, 1) := by decide +kernel
theorem dL_showsByPapers_6 : decode cL_showsByPapers 6 = .ok (.iload_n 3, 1) := by decide +kernel
theorem dL_showsByPapers_7 : decode cL_showsByPapers 7 = .ok (.invokevirtual 70, 3) := by decide +kernel
theorem dL_showsByPapers_10 : decode cL_showsByPapers 10 = .ok (.ifCond .eq 7, 3) := by decide +kernel
theorem dL_showsByPapers_13 : decode cL_showsByPapers 13 = .ok (.lconst 1, 1) := by decide +kernel
theorem dL_showsByPapers_14 : decode cL_showsByPapers 14 = .ok (.goto 4, 3) := by decide +kernel
theorem dL_showsByPapers_17 : decode cL_showsByPapers 17 = .ok (.lconst 0, 1) := by decide +kernel
theorem dL_showsByPapers_18 : decode cL_showsByPapers 18 = .ok (.lastore, 1) := by decide +kernel
theorem dL_showsByPapers_19 : decode cL_showsByPapers 19 = .ok (.goto 7, 3) := by decide +kernel
theorem dL_showsByPapers_22 : decode cL_showsByPapers 22 = .ok (.astore 5, 2) := by decide +kernel
theorem dL_showsByPapers_24 : decode cL_showsByPapers 24 = .ok (.iconst 1, 1) := by decide +kernel
theorem dL_showsByPapers_25 : decode cL_showsByPapers 25 = .ok (.ireturn, 1) := by decide +kernel
theorem dL_showsByPapers_26 : decode cL_showsByPapers 26 = .ok (.iconst 0, 1) := by decide +kernel
theorem dL_showsByPapers_27 : decode cL_showsByPapers 27 = .ok (.ireturn, 1) := by decide +kernel
theorem dL_law_0 : decode cL_law 0 = .ok (.new 8, 3) := by decide +kernel
theorem dL_law_3 : decode cL_law 3 = .ok (.dup, 1) := by decide +kernel
theorem dL_law_4 : decode cL_law 4 = .ok (.invokespecial 73, 3) := by decide +kernel
theorem dL_law_7 : decode cL_law 7 = .ok (.astore_n 1, 1) := by decide +kernel
theorem dL_law_8 : decode cL_law 8 = .ok (.new 74, 3) := by decide +kernel
theorem dL_law_11 : decode cL_law 11 = .ok (.dup, 1) := by decide +kernel
theorem dL_law_12 : decode cL_law 12 = .ok (.invokespecial 76, 3) := by decide +kernel
theorem dL_law_15 : decode cL_law 15 = .ok (.astore_n 2, 1) := by decide +kernel
theorem dL_law_16 : decode cL_law 16 = .ok (.iconst 1, 1) := by decide +kernel
theorem dL_law_17 : decode cL_law 17 = .ok (.newarray .long, 2) := by decide +kernel
theorem dL_law_19 : decode cL_law 19 = .ok (.astore_n 3, 1) := by decide +kernel
theorem dL_law_20 : decode cL_law 20 = .ok (.iconst 0, 1) := by decide +kernel
theorem dL_law_21 : decode cL_law 21 = .ok (.istore 4, 2) := by decide +kernel
theorem dL_law_23 : decode cL_law 23 = .ok (.iload 4, 2) := by decide +kernel
theorem dL_law_25 : decode cL_law 25 = .ok (.aload_n 0, 1) := by decide +kernel
theorem dL_law_26 : decode cL_law 26 = .ok (.arraylength, 1) := by decide +kernel
theorem dL_law_27 : decode cL_law 27 = .ok (.iconst 4, 1) := by decide +kernel
theorem dL_law_28 : decode cL_law 28 = .ok (.isub, 1) := by decide +kernel
theorem dL_law_29 : decode cL_law 29 = .ok (.if_icmp .gt 1324, 3) := by decide +kernel
theorem dL_law_32 : decode cL_law 32 = .ok (.aload_n 0, 1) := by decide +kernel
theorem dL_law_33 : decode cL_law 33 = .ok (.iload 4, 2) := by decide +kernel
theorem dL_law_35 : decode cL_law 35 = .ok (.iaload, 1) := by decide +kernel
theorem dL_law_36 : decode cL_law 36 = .ok (.bipush 31, 2) := by decide +kernel
theorem dL_law_38 : decode cL_law 38 = .ok (.iand, 1) := by decide +kernel
theorem dL_law_39 : decode cL_law 39 = .ok (.tableswitch 1308 0 21 #[101, 169, 265, 345, 413, 481, 537, 581, 665, 678, 691, 747, 760, 816, 872, 928, 984, 1040, 1108, 1121, 1208, 1295], 101) := by decide +kernel
theorem dL_law_140 : decode cL_law 140 = .ok (.aload_n 1, 1) := by decide +kernel
theorem dL_law_141 : decode cL_law 141 = .ok (.aload_n 0, 1) := by decide +kernel
theorem dL_law_142 : decode cL_law 142 = .ok (.iload 4, 2) := by decide +kernel
theorem dL_law_144 : decode cL_law 144 = .ok (.iconst 1, 1) := by decide +kernel
theorem dL_law_145 : decode cL_law 145 = .ok (.iadd, 1) := by decide +kernel
theorem dL_law_146 : decode cL_law 146 = .ok (.iaload, 1) := by decide +kernel
theorem dL_law_147 : decode cL_law 147 = .ok (.aload_n 0, 1) := by decide +kernel
theorem dL_law_148 : decode cL_law 148 = .ok (.iload 4, 2) := by decide +kernel
theorem dL_law_150 : decode cL_law 150 = .ok (.iconst 2, 1) := by decide +kernel
theorem dL_law_151 : decode cL_law 151 = .ok (.iadd, 1) := by decide +kernel
theorem dL_law_152 : decode cL_law 152 = .ok (.iaload, 1) := by decide +kernel
theorem dL_law_153 : decode cL_law 153 = .ok (.aload_n 3, 1) := by decide +kernel
theorem dL_law_154 : decode cL_law 154 = .ok (.invokestatic 77, 3) := by decide +kernel
theorem dL_law_157 : decode cL_law 157 = .ok (.istore 5, 2) := by decide +kernel
theorem dL_law_159 : decode cL_law 159 = .ok (.aload_n 2, 1) := by decide +kernel
theorem dL_law_160 : decode cL_law 160 = .ok (.aload_n 0, 1) := by decide +kernel
theorem dL_law_161 : decode cL_law 161 = .ok (.iload 4, 2) := by decide +kernel
theorem dL_law_163 : decode cL_law 163 = .ok (.iconst 1, 1) := by decide +kernel
theorem dL_law_164 : decode cL_law 164 = .ok (.iadd, 1) := by decide +kernel
theorem dL_law_165 : decode cL_law 165 = .ok (.iaload, 1) := by decide +kernel
theorem dL_law_166 : decode cL_law 166 = .ok (.aload_n 0, 1) := by decide +kernel
theorem dL_law_167 : decode cL_law 167 = .ok (.iload 4, 2) := by decide +kernel
theorem dL_law_169 : decode cL_law 169 = .ok (.iconst 2, 1) := by decide +kernel
theorem dL_law_170 : decode cL_law 170 = .ok (.iadd, 1) := by decide +kernel
theorem dL_law_171 : decode cL_law 171 = .ok (.iaload, 1) := by decide +kernel
theorem dL_law_172 : decode cL_law 172 = .ok (.invokevirtual 82, 3) := by decide +kernel
theorem dL_law_175 : decode cL_law 175 = .ok (.istore 6, 2) := by decide +kernel
theorem dL_law_177 : decode cL_law 177 = .ok (.aload_n 2, 1) := by decide +kernel
theorem dL_law_178 : decode cL_law 178 = .ok (.invokevirtual 83, 3) := by decide +kernel
theorem dL_law_181 : decode cL_law 181 = .ok (.iload 5, 2) := by decide +kernel
theorem dL_law_183 : decode cL_law 183 = .ok (.if_icmp .eq 5, 3) := by decide +kernel
theorem dL_law_186 : decode cL_law 186 = .ok (.iconst 0, 1) := by decide +kernel
theorem dL_law_187 : decode cL_law 187 = .ok (.ireturn, 1) := by decide +kernel
theorem dL_law_188 : decode cL_law 188 = .ok (.iload 5, 2) := by decide +kernel
theorem dL_law_190 : decode cL_law 190 = .ok (.ifCond .ne 15, 3) := by decide +kernel
theorem dL_law_193 : decode cL_law 193 = .ok (.aload_n 3, 1) := by decide +kernel
theorem dL_law_194 : decode cL_law 194 = .ok (.iconst 0, 1) := by decide +kernel
theorem dL_law_195 : decode cL_law 195 = .ok (.laload, 1) := by decide +kernel
theorem dL_law_196 : decode cL_law 196 = .ok (.iload 6, 2) := by decide +kernel
theorem dL_law_198 : decode cL_law 198 = .ok (.i2l, 1) := by decide +kernel
theorem dL_law_199 : decode cL_law 199 = .ok (.lcmp, 1) := by decide +kernel
theorem dL_law_200 : decode cL_law 200 = .ok (.ifCond .eq 5, 3) := by decide +kernel
theorem dL_law_203 : decode cL_law 203 = .ok (.iconst 0, 1) := by decide +kernel
theorem dL_law_204 : decode cL_law 204 = .ok (.ireturn, 1) := by decide +kernel
theorem dL_law_205 : decode cL_law 205 = .ok (.goto 1142, 3) := by decide +kernel
theorem dL_law_208 : decode cL_law 208 = .ok (.aload_n 1, 1) := by decide +kernel
theorem dL_law_209 : decode cL_law 209 = .ok (.aload_n 0, 1) := by decide +kernel
theorem dL_law_210 : decode cL_law 210 = .ok (.iload 4, 2) := by decide +kernel
theorem dL_law_212 : decode cL_law 212 = .ok (.iconst 1, 1) := by decide +kernel
theorem dL_law_213 : decode cL_law 213 = .ok (.iadd, 1) := by decide +kernel
theorem dL_law_214 : decode cL_law 214 = .ok (.iaload, 1) := by decide +kernel
theorem dL_law_215 : decode cL_law 215 = .ok (.aload_n 0, 1) := by decide +kernel
theorem dL_law_216 : decode cL_law 216 = .ok (.iload 4, 2) := by decide +kernel
theorem dL_law_218 : decode cL_law 218 = .ok (.iconst 2, 1) := by decide +kernel
theorem dL_law_219 : decode cL_law 219 = .ok (.iadd, 1) := by decide +kernel
theorem dL_law_220 : decode cL_law 220 = .ok (.iaload, 1) := by decide +kernel
theorem dL_law_221 : decode cL_law 221 = .ok (.aload_n 0, 1) := by decide +kernel
theorem dL_law_222 : decode cL_law 222 = .ok (.iload 4, 2) := by decide +kernel
theorem dL_law_224 : decode cL_law 224 = .ok (.iconst 3, 1) := by decide +kernel
theorem dL_law_225 : decode cL_law 225 = .ok (.iadd, 1) := by decide +kernel
theorem dL_law_226 : decode cL_law 226 = .ok (.iaload, 1) := by decide +kernel
theorem dL_law_227 : decode cL_law 227 = .ok (.ifCond .eq 7, 3) := by decide +kernel
theorem dL_law_230 : decode cL_law 230 = .ok (.iconst 1, 1) := by decide +kernel
theorem dL_law_231 : decode cL_law 231 = .ok (.goto 4, 3) := by decide +kernel
theorem dL_law_234 : decode cL_law 234 = .ok (.iconst 0, 1) := by decide +kernel
theorem dL_law_235 : decode cL_law 235 = .ok (.aload_n 3, 1) := by decide +kernel
theorem dL_law_236 : decode cL_law 236 = .ok (.invokestatic 86, 3) := by decide +kernel
theorem dL_law_239 : decode cL_law 239 = .ok (.istore 5, 2) := by decide +kernel
theorem dL_law_241 : decode cL_law 241 = .ok (.aload_n 2, 1) := by decide +kernel
theorem dL_law_242 : decode cL_law 242 = .ok (.aload_n 0, 1) := by decide +kernel
theorem dL_law_243 : decode cL_law 243 = .ok (.iload 4, 2) := by decide +kernel
theorem dL_law_245 : decode cL_law 245 = .ok (.iconst 1, 1) := by decide +kernel
theorem dL_law_246 : decode cL_law 246 = .ok (.iadd, 1) := by decide +kernel
theorem dL_law_247 : decode cL_law 247 = .ok (.iaload, 1) := by decide +kernel
theorem dL_law_248 : decode cL_law 248 = .ok (.aload_n 0, 1) := by decide +kernel
theorem dL_law_249 : decode cL_law 249 = .ok (.iload 4, 2) := by decide +kernel
theorem dL_law_251 : decode cL_law 251 = .ok (.iconst 2, 1) := by decide +kernel
theorem dL_law_252 : decode cL_law 252 = .ok (.iadd, 1) := by decide +kernel
theorem dL_law_253 : decode cL_law 253 = .ok (.iaload, 1) := by decide +kernel
theorem dL_law_254 : decode cL_law 254 = .ok (.aload_n 0, 1) := by decide +kernel
theorem dL_law_255 : decode cL_law 255 = .ok (.iload 4, 2) := by decide +kernel
theorem dL_law_257 : decode cL_law 257 = .ok (.iconst 3, 1) := by decide +kernel
theorem dL_law_258 : decode cL_law 258 = .ok (.iadd, 1) := by decide +kernel
theorem dL_law_259 : decode cL_law 259 = .ok (.iaload, 1) := by decide +kernel
theorem dL_law_260 : decode cL_law 260 = .ok (.ifCond .eq 7, 3) := by decide +kernel
theorem dL_law_263 : decode cL_law 263 = .ok (.iconst 1, 1) := by decide +kernel
theorem dL_law_264 : decode cL_law 264 = .ok (.goto 4, 3) := by decide +kernel
theorem dL_law_267 : decode cL_law 267 = .ok (.iconst 0, 1) := by decide +kernel
theorem dL_law_268 : decode cL_law 268 = .ok (.invokevirtual 89, 3) := by decide +kernel
theorem dL_law_271 : decode cL_law 271 = .ok (.istore 6, 2) := by decide +kernel
theorem dL_law_273 : decode cL_law 273 = .ok (.aload_n 2, 1) := by decide +kernel
theorem dL_law_274 : decode cL_law 274 = .ok (.invokevirtual 83, 3) := by decide +kernel
theorem dL_law_277 : decode cL_law 277 = .ok (.iload 5, 2) := by decide +kernel
theorem dL_law_279 : decode cL_law 279 = .ok (.if_icmp .eq 5, 3) := by decide +kernel
theorem dL_law_282 : decode cL_law 282 = .ok (.iconst 0, 1) := by decide +kernel
theorem dL_law_283 : decode cL_law 283 = .ok (.ireturn, 1) := by decide +kernel
theorem dL_law_284 : decode cL_law 284 = .ok (.iload 5, 2) := by decide +kernel
theorem dL_law_286 : decode cL_law 286 = .ok (.ifCond .ne 15, 3) := by decide +kernel
theorem dL_law_289 : decode cL_law 289 = .ok (.aload_n 3, 1) := by decide +kernel
theorem dL_law_290 : decode cL_law 290 = .ok (.iconst 0, 1) := by decide +kernel
theorem dL_law_291 : decode cL_law 291 = .ok (.laload, 1) := by decide +kernel
theorem dL_law_292 : decode cL_law 292 = .ok (.iload 6, 2) := by decide +kernel
theorem dL_law_294 : decode cL_law 294 = .ok (.i2l, 1) := by decide +kernel
theorem dL_law_295 : decode cL_law 295 = .ok (.lcmp, 1) := by decide +kernel
theorem dL_law_296 : decode cL_law 296 = .ok (.ifCond .eq 5, 3) := by decide +kernel
theorem dL_law_299 : decode cL_law 299 = .ok (.iconst 0, 1) := by decide +kernel
theorem dL_law_300 : decode cL_law 300 = .ok (.ireturn, 1) := by decide +kernel
theorem dL_law_301 : decode cL_law 301 = .ok (.goto 1046, 3) := by decide +kernel
theorem dL_law_304 : decode cL_law 304 = .ok (.aload_n 1, 1) := by decide +kernel
theorem dL_law_305 : decode cL_law 305 = .ok (.aload_n 0, 1) := by decide +kernel
theorem dL_law_306 : decode cL_law 306 = .ok (.iload 4, 2) := by decide +kernel
theorem dL_law_308 : decode cL_law 308 = .ok (.iconst 1, 1) := by decide +kernel
theorem dL_law_309 : decode cL_law 309 = .ok (.iadd, 1) := by decide +kernel
theorem dL_law_310 : decode cL_law 310 = .ok (.iaload, 1) := by decide +kernel
theorem dL_law_311 : decode cL_law 311 = .ok (.aload_n 0, 1) := by decide +kernel
theorem dL_law_312 : decode cL_law 312 = .ok (.iload 4, 2) := by decide +kernel
theorem dL_law_314 : decode cL_law 314 = .ok (.iconst 2, 1) := by decide +kernel
theorem dL_law_315 : decode cL_law 315 = .ok (.iadd, 1) := by decide +kernel
theorem dL_law_316 : decode cL_law 316 = .ok (.iaload, 1) := by decide +kernel
theorem dL_law_317 : decode cL_law 317 = .ok (.aload_n 0, 1) := by decide +kernel
theorem dL_law_318 : decode cL_law 318 = .ok (.iload 4, 2) := by decide +kernel
theorem dL_law_320 : decode cL_law 320 = .ok (.iconst 3, 1) := by decide +kernel
theorem dL_law_321 : decode cL_law 321 = .ok (.iadd, 1) := by decide +kernel
theorem dL_law_322 : decode cL_law 322 = .ok (.iaload, 1) := by decide +kernel
theorem dL_law_323 : decode cL_law 323 = .ok (.aload_n 3, 1) := by decide +kernel
theorem dL_law_324 : decode cL_law 324 = .ok (.invokestatic 90, 3) := by decide +kernel
theorem dL_law_327 : decode cL_law 327 = .ok (.istore 5, 2) := by decide +kernel
theorem dL_law_329 : decode cL_law 329 = .ok (.aload_n 2, 1) := by decide +kernel
theorem dL_law_330 : decode cL_law 330 = .ok (.aload_n 0, 1) := by decide +kernel
theorem dL_law_331 : decode cL_law 331 = .ok (.iload 4, 2) := by decide +kernel
theorem dL_law_333 : decode cL_law 333 = .ok (.iconst 1, 1) := by decide +kernel
theorem dL_law_334 : decode cL_law 334 = .ok (.iadd, 1) := by decide +kernel
theorem dL_law_335 : decode cL_law 335 = .ok (.iaload, 1) := by decide +kernel
theorem dL_law_336 : decode cL_law 336 = .ok (.aload_n 0, 1) := by decide +kernel
theorem dL_law_337 : decode cL_law 337 = .ok (.iload 4, 2) := by decide +kernel
theorem dL_law_339 : decode cL_law 339 = .ok (.iconst 2, 1) := by decide +kernel
theorem dL_law_340 : decode cL_law 340 = .ok (.iadd, 1) := by decide +kernel
theorem dL_law_341 : decode cL_law 341 = .ok (.iaload, 1) := by decide +kernel
theorem dL_law_342 : decode cL_law 342 = .ok (.aload_n 0, 1) := by decide +kernel
theorem dL_law_343 : decode cL_law 343 = .ok (.iload 4, 2) := by decide +kernel
theorem dL_law_345 : decode cL_law 345 = .ok (.iconst 3, 1) := by decide +kernel
theorem dL_law_346 : decode cL_law 346 = .ok (.iadd, 1) := by decide +kernel
theorem dL_law_347 : decode cL_law 347 = .ok (.iaload, 1) := by decide +kernel
theorem dL_law_348 : decode cL_law 348 = .ok (.invokevirtual 93, 3) := by decide +kernel
theorem dL_law_351 : decode cL_law 351 = .ok (.istore 6, 2) := by decide +kernel
theorem dL_law_353 : decode cL_law 353 = .ok (.aload_n 2, 1) := by decide +kernel
theorem dL_law_354 : decode cL_law 354 = .ok (.invokevirtual 83, 3) := by decide +kernel
theorem dL_law_357 : decode cL_law 357 = .ok (.iload 5, 2) := by decide +kernel
theorem dL_law_359 : decode cL_law 359 = .ok (.if_icmp .eq 5, 3) := by decide +kernel
theorem dL_law_362 : decode cL_law 362 = .ok (.iconst 0, 1) := by decide +kernel
theorem dL_law_363 : decode cL_law 363 = .ok (.ireturn, 1) := by decide +kernel
theorem dL_law_364 : decode cL_law 364 = .ok (.iload 5, 2) := by decide +kernel
theorem dL_law_366 : decode cL_law 366 = .ok (.ifCond .ne 15, 3) := by decide +kernel
theorem dL_law_369 : decode cL_law 369 = .ok (.aload_n 3, 1) := by decide +kernel
theorem dL_law_370 : decode cL_law 370 = .ok (.iconst 0, 1) := by decide +kernel
theorem dL_law_371 : decode cL_law 371 = .ok (.laload, 1) := by decide +kernel
theorem dL_law_372 : decode cL_law 372 = .ok (.iload 6, 2) := by decide +kernel
theorem dL_law_374 : decode cL_law 374 = .ok (.i2l, 1) := by decide +kernel
theorem dL_law_375 : decode cL_law 375 = .ok (.lcmp, 1) := by decide +kernel
theorem dL_law_376 : decode cL_law 376 = .ok (.ifCond .eq 5, 3) := by decide +kernel
theorem dL_law_379 : decode cL_law 379 = .ok (.iconst 0, 1) := by decide +kernel
theorem dL_law_380 : decode cL_law 380 = .ok (.ireturn, 1) := by decide +kernel
theorem dL_law_381 : decode cL_law 381 = .ok (.goto 966, 3) := by decide +kernel
theorem dL_law_384 : decode cL_law 384 = .ok (.aload_n 1, 1) := by decide +kernel
theorem dL_law_385 : decode cL_law 385 = .ok (.aload_n 0, 1) := by decide +kernel
theorem dL_law_386 : decode cL_law 386 = .ok (.iload 4, 2) := by decide +kernel
theorem dL_law_388 : decode cL_law 388 = .ok (.iconst 1, 1) := by decide +kernel
theorem dL_law_389 : decode cL_law 389 = .ok (.iadd, 1) := by decide +kernel
theorem dL_law_390 : decode cL_law 390 = .ok (.iaload, 1) := by decide +kernel
theorem dL_law_391 : decode cL_law 391 = .ok (.aload_n 0, 1) := by decide +kernel
theorem dL_law_392 : decode cL_law 392 = .ok (.iload 4, 2) := by decide +kernel
theorem dL_law_394 : decode cL_law 394 = .ok (.iconst 2, 1) := by decide +kernel
theorem dL_law_395 : decode cL_law 395 = .ok (.iadd, 1) := by decide +kernel
theorem dL_law_396 : decode cL_law 396 = .ok (.iaload, 1) := by decide +kernel
theorem dL_law_397 : decode cL_law 397 = .ok (.aload_n 3, 1) := by decide +kernel
theorem dL_law_398 : decode cL_law 398 = .ok (.invokestatic 94, 3) := by decide +kernel
theorem dL_law_401 : decode cL_law 401 = .ok (.istore 5, 2) := by decide +kernel
theorem dL_law_403 : decode cL_law 403 = .ok (.aload_n 2, 1) := by decide +kernel
theorem dL_law_404 : decode cL_law 404 = .ok (.aload_n 0, 1) := by decide +kernel
theorem dL_law_405 : decode cL_law 405 = .ok (.iload 4, 2) := by decide +kernel
theorem dL_law_407 : decode cL_law 407 = .ok (.iconst 1, 1) := by decide +kernel
theorem dL_law_408 : decode cL_law 408 = .ok (.iadd, 1) := by decide +kernel
theorem dL_law_409 : decode cL_law 409 = .ok (.iaload, 1) := by decide +kernel
theorem dL_law_410 : decode cL_law 410 = .ok (.aload_n 0, 1) := by decide +kernel
theorem dL_law_411 : decode cL_law 411 = .ok (.iload 4, 2) := by decide +kernel
theorem dL_law_413 : decode cL_law 413 = .ok (.iconst 2, 1) := by decide +kernel
theorem dL_law_414 : decode cL_law 414 = .ok (.iadd, 1) := by decide +kernel
theorem dL_law_415 : decode cL_law 415 = .ok (.iaload, 1) := by decide +kernel
theorem dL_law_416 : decode cL_law 416 = .ok (.invokevirtual 96, 3) := by decide +kernel
theorem dL_law_419 : decode cL_law 419 = .ok (.istore 6, 2) := by decide +kernel
theorem dL_law_421 : decode cL_law 421 = .ok (.aload_n 2, 1) := by decide +kernel
theorem dL_law_422 : decode cL_law 422 = .ok (.invokevirtual 83, 3) := by decide +kernel
theorem dL_law_425 : decode cL_law 425 = .ok (.iload 5, 2) := by decide +kernel
theorem dL_law_427 : decode cL_law 427 = .ok (.if_icmp .eq 5, 3) := by decide +kernel
theorem dL_law_430 : decode cL_law 430 = .ok (.iconst 0, 1) := by decide +kernel
theorem dL_law_431 : decode cL_law 431 = .ok (.ireturn, 1) := by decide +kernel
theorem dL_law_432 : decode cL_law 432 = .ok (.iload 5, 2) := by decide +kernel
theorem dL_law_434 : decode cL_law 434 = .ok (.ifCond .ne 15, 3) := by decide +kernel
theorem dL_law_437 : decode cL_law 437 = .ok (.aload_n 3, 1) := by decide +kernel
theorem dL_law_438 : decode cL_law 438 = .ok (.iconst 0, 1) := by decide +kernel
theorem dL_law_439 : decode cL_law 439 = .ok (.laload, 1) := by decide +kernel
theorem dL_law_440 : decode cL_law 440 = .ok (.iload 6, 2) := by decide +kernel
theorem dL_law_442 : decode cL_law 442 = .ok (.i2l, 1) := by decide +kernel
theorem dL_law_443 : decode cL_law 443 = .ok (.lcmp, 1) := by decide +kernel
theorem dL_law_444 : decode cL_law 444 = .ok (.ifCond .eq 5, 3) := by decide +kernel
theorem dL_law_447 : decode cL_law 447 = .ok (.iconst 0, 1) := by decide +kernel
theorem dL_law_448 : decode cL_law 448 = .ok (.ireturn, 1) := by decide +kernel
theorem dL_law_449 : decode cL_law 449 = .ok (.goto 898, 3) := by decide +kernel
theorem dL_law_452 : decode cL_law 452 = .ok (.aload_n 1, 1) := by decide +kernel
theorem dL_law_453 : decode cL_law 453 = .ok (.aload_n 0, 1) := by decide +kernel
theorem dL_law_454 : decode cL_law 454 = .ok (.iload 4, 2) := by decide +kernel
theorem dL_law_456 : decode cL_law 456 = .ok (.iconst 1, 1) := by decide +kernel
theorem dL_law_457 : decode cL_law 457 = .ok (.iadd, 1) := by decide +kernel
theorem dL_law_458 : decode cL_law 458 = .ok (.iaload, 1) := by decide +kernel
theorem dL_law_459 : decode cL_law 459 = .ok (.aload_n 0, 1) := by decide +kernel
theorem dL_law_460 : decode cL_law 460 = .ok (.iload 4, 2) := by decide +kernel
theorem dL_law_462 : decode cL_law 462 = .ok (.iconst 2, 1) := by decide +kernel
theorem dL_law_463 : decode cL_law 463 = .ok (.iadd, 1) := by decide +kernel
theorem dL_law_464 : decode cL_law 464 = .ok (.iaload, 1) := by decide +kernel
theorem dL_law_465 : decode cL_law 465 = .ok (.aload_n 3, 1) := by decide +kernel
theorem dL_law_466 : decode cL_law 466 = .ok (.invokestatic 97, 3) := by decide +kernel
theorem dL_law_469 : decode cL_law 469 = .ok (.istore 5, 2) := by decide +kernel
theorem dL_law_471 : decode cL_law 471 = .ok (.aload_n 2, 1) := by decide +kernel
theorem dL_law_472 : decode cL_law 472 = .ok (.aload_n 0, 1) := by decide +kernel
theorem dL_law_473 : decode cL_law 473 = .ok (.iload 4, 2) := by decide +kernel
theorem dL_law_475 : decode cL_law 475 = .ok (.iconst 1, 1) := by decide +kernel
theorem dL_law_476 : decode cL_law 476 = .ok (.iadd, 1) := by decide +kernel
theorem dL_law_477 : decode cL_law 477 = .ok (.iaload, 1) := by decide +kernel
theorem dL_law_478 : decode cL_law 478 = .ok (.aload_n 0, 1) := by decide +kernel
theorem dL_law_479 : decode cL_law 479 = .ok (.iload 4, 2) := by decide +kernel
theorem dL_law_481 : decode cL_law 481 = .ok (.iconst 2, 1) := by decide +kernel
theorem dL_law_482 : decode cL_law 482 = .ok (.iadd, 1) := by decide +kernel
theorem dL_law_483 : decode cL_law 483 = .ok (.iaload, 1) := by decide +kernel
theorem dL_law_484 : decode cL_law 484 = .ok (.invokevirtual 99, 3) := by decide +kernel
theorem dL_law_487 : decode cL_law 487 = .ok (.istore 6, 2) := by decide +kernel
theorem dL_law_489 : decode cL_law 489 = .ok (.aload_n 2, 1) := by decide +kernel
theorem dL_law_490 : decode cL_law 490 = .ok (.invokevirtual 83, 3) := by decide +kernel
theorem dL_law_493 : decode cL_law 493 = .ok (.iload 5, 2) := by decide +kernel
theorem dL_law_495 : decode cL_law 495 = .ok (.if_icmp .eq 5, 3) := by decide +kernel
theorem dL_law_498 : decode cL_law 498 = .ok (.iconst 0, 1) := by decide +kernel
theorem dL_law_499 : decode cL_law 499 = .ok (.ireturn, 1) := by decide +kernel
theorem dL_law_500 : decode cL_law 500 = .ok (.iload 5, 2) := by decide +kernel
theorem dL_law_502 : decode cL_law 502 = .ok (.ifCond .ne 15, 3) := by decide +kernel
theorem dL_law_505 : decode cL_law 505 = .ok (.aload_n 3, 1) := by decide +kernel
theorem dL_law_506 : decode cL_law 506 = .ok (.iconst 0, 1) := by decide +kernel
theorem dL_law_507 : decode cL_law 507 = .ok (.laload, 1) := by decide +kernel
theorem dL_law_508 : decode cL_law 508 = .ok (.iload 6, 2) := by decide +kernel
theorem dL_law_510 : decode cL_law 510 = .ok (.i2l, 1) := by decide +kernel
theorem dL_law_511 : decode cL_law 511 = .ok (.lcmp, 1) := by decide +kernel
theorem dL_law_512 : decode cL_law 512 = .ok (.ifCond .eq 5, 3) := by decide +kernel
theorem dL_law_515 : decode cL_law 515 = .ok (.iconst 0, 1) := by decide +kernel
theorem dL_law_516 : decode cL_law 516 = .ok (.ireturn, 1) := by decide +kernel
theorem dL_law_517 : decode cL_law 517 = .ok (.goto 830, 3) := by decide +kernel
theorem dL_law_520 : decode cL_law 520 = .ok (.aload_n 1, 1) := by decide +kernel
theorem dL_law_521 : decode cL_law 521 = .ok (.aload_n 0, 1) := by decide +kernel
theorem dL_law_522 : decode cL_law 522 = .ok (.iload 4, 2) := by decide +kernel
theorem dL_law_524 : decode cL_law 524 = .ok (.iconst 1, 1) := by decide +kernel
theorem dL_law_525 : decode cL_law 525 = .ok (.iadd, 1) := by decide +kernel
theorem dL_law_526 : decode cL_law 526 = .ok (.iaload, 1) := by decide +kernel
theorem dL_law_527 : decode cL_law 527 = .ok (.aload_n 3, 1) := by decide +kernel
theorem dL_law_528 : decode cL_law 528 = .ok (.invokestatic 100, 3) := by decide +kernel
theorem dL_law_531 : decode cL_law 531 = .ok (.istore 5, 2) := by decide +kernel
theorem dL_law_533 : decode cL_law 533 = .ok (.aload_n 2, 1) := by decide +kernel
theorem dL_law_534 : decode cL_law 534 = .ok (.aload_n 0, 1) := by decide +kernel
theorem dL_law_535 : decode cL_law 535 = .ok (.iload 4, 2) := by decide +kernel
theorem dL_law_537 : decode cL_law 537 = .ok (.iconst 1, 1) := by decide +kernel
theorem dL_law_538 : decode cL_law 538 = .ok (.iadd, 1) := by decide +kernel
theorem dL_law_539 : decode cL_law 539 = .ok (.iaload, 1) := by decide +kernel
theorem dL_law_540 : decode cL_law 540 = .ok (.invokevirtual 103, 3) := by decide +kernel
theorem dL_law_543 : decode cL_law 543 = .ok (.istore 6, 2) := by decide +kernel
theorem dL_law_545 : decode cL_law 545 = .ok (.aload_n 2, 1) := by decide +kernel
theorem dL_law_546 : decode cL_law 546 = .ok (.invokevirtual 83, 3) := by decide +kernel
theorem dL_law_549 : decode cL_law 549 = .ok (.iload 5, 2) := by decide +kernel
theorem dL_law_551 : decode cL_law 551 = .ok (.if_icmp .eq 5, 3) := by decide +kernel
theorem dL_law_554 : decode cL_law 554 = .ok (.iconst 0, 1) := by decide +kernel
theorem dL_law_555 : decode cL_law 555 = .ok (.ireturn, 1) := by decide +kernel
theorem dL_law_556 : decode cL_law 556 = .ok (.iload 5, 2) := by decide +kernel
theorem dL_law_558 : decode cL_law 558 = .ok (.ifCond .ne 15, 3) := by decide +kernel
theorem dL_law_561 : decode cL_law 561 = .ok (.aload_n 3, 1) := by decide +kernel
theorem dL_law_562 : decode cL_law 562 = .ok (.iconst 0, 1) := by decide +kernel
theorem dL_law_563 : decode cL_law 563 = .ok (.laload, 1) := by decide +kernel
theorem dL_law_564 : decode cL_law 564 = .ok (.iload 6, 2) := by decide +kernel
theorem dL_law_566 : decode cL_law 566 = .ok (.i2l, 1) := by decide +kernel
theorem dL_law_567 : decode cL_law 567 = .ok (.lcmp, 1) := by decide +kernel
theorem dL_law_568 : decode cL_law 568 = .ok (.ifCond .eq 5, 3) := by decide +kernel
theorem dL_law_571 : decode cL_law 571 = .ok (.iconst 0, 1) := by decide +kernel
theorem dL_law_572 : decode cL_law 572 = .ok (.ireturn, 1) := by decide +kernel
theorem dL_law_573 : decode cL_law 573 = .ok (.goto 774, 3) := by decide +kernel
theorem dL_law_576 : decode cL_law 576 = .ok (.aload_n 1, 1) := by decide +kernel
theorem dL_law_577 : decode cL_law 577 = .ok (.aload_n 3, 1) := by decide +kernel
theorem dL_law_578 : decode cL_law 578 = .ok (.invokestatic 104, 3) := by decide +kernel
theorem dL_law_581 : decode cL_law 581 = .ok (.istore 5, 2) := by decide +kernel
theorem dL_law_583 : decode cL_law 583 = .ok (.aload_n 2, 1) := by decide +kernel
theorem dL_law_584 : decode cL_law 584 = .ok (.invokevirtual 107, 3) := by decide +kernel
theorem dL_law_587 : decode cL_law 587 = .ok (.istore 6, 2) := by decide +kernel
theorem dL_law_589 : decode cL_law 589 = .ok (.aload_n 2, 1) := by decide +kernel
theorem dL_law_590 : decode cL_law 590 = .ok (.invokevirtual 83, 3) := by decide +kernel
theorem dL_law_593 : decode cL_law 593 = .ok (.iload 5, 2) := by decide +kernel
theorem dL_law_595 : decode cL_law 595 = .ok (.if_icmp .eq 5, 3) := by decide +kernel
theorem dL_law_598 : decode cL_law 598 = .ok (.iconst 0, 1) := by decide +kernel
theorem dL_law_599 : decode cL_law 599 = .ok (.ireturn, 1) := by decide +kernel
theorem dL_law_600 : decode cL_law 600 = .ok (.iload 5, 2) := by decide +kernel
theorem dL_law_602 : decode cL_law 602 = .ok (.ifCond .ne 15, 3) := by decide +kernel
theorem dL_law_605 : decode cL_law 605 = .ok (.aload_n 3, 1) := by decide +kernel
theorem dL_law_606 : decode cL_law 606 = .ok (.iconst 0, 1) := by decide +kernel
theorem dL_law_607 : decode cL_law 607 = .ok (.laload, 1) := by decide +kernel
theorem dL_law_608 : decode cL_law 608 = .ok (.iload 6, 2) := by decide +kernel
theorem dL_law_610 : decode cL_law 610 = .ok (.i2l, 1) := by decide +kernel
theorem dL_law_611 : decode cL_law 611 = .ok (.lcmp, 1) := by decide +kernel
theorem dL_law_612 : decode cL_law 612 = .ok (.ifCond .eq 5, 3) := by decide +kernel
theorem dL_law_615 : decode cL_law 615 = .ok (.iconst 0, 1) := by decide +kernel
theorem dL_law_616 : decode cL_law 616 = .ok (.ireturn, 1) := by decide +kernel
theorem dL_law_617 : decode cL_law 617 = .ok (.goto 730, 3) := by decide +kernel
theorem dL_law_620 : decode cL_law 620 = .ok (.aload_n 1, 1) := by decide +kernel
theorem dL_law_621 : decode cL_law 621 = .ok (.aload_n 0, 1) := by decide +kernel
theorem dL_law_622 : decode cL_law 622 = .ok (.iload 4, 2) := by decide +kernel
theorem dL_law_624 : decode cL_law 624 = .ok (.iconst 1, 1) := by decide +kernel
theorem dL_law_625 : decode cL_law 625 = .ok (.iadd, 1) := by decide +kernel
theorem dL_law_626 : decode cL_law 626 = .ok (.iaload, 1) := by decide +kernel
theorem dL_law_627 : decode cL_law 627 = .ok (.aload_n 0, 1) := by decide +kernel
theorem dL_law_628 : decode cL_law 628 = .ok (.iload 4, 2) := by decide +kernel
theorem dL_law_630 : decode cL_law 630 = .ok (.iconst 2, 1) := by decide +kernel
theorem dL_law_631 : decode cL_law 631 = .ok (.iadd, 1) := by decide +kernel
theorem dL_law_632 : decode cL_law 632 = .ok (.iaload, 1) := by decide +kernel
theorem dL_law_633 : decode cL_law 633 = .ok (.ifCond .eq 7, 3) := by decide +kernel
theorem dL_law_636 : decode cL_law 636 = .ok (.iconst 1, 1) := by decide +kernel
theorem dL_law_637 : decode cL_law 637 = .ok (.goto 4, 3) := by decide +kernel
theorem dL_law_640 : decode cL_law 640 = .ok (.iconst 0, 1) := by decide +kernel
theorem dL_law_641 : decode cL_law 641 = .ok (.aload_n 3, 1) := by decide +kernel
theorem dL_law_642 : decode cL_law 642 = .ok (.invokestatic 108, 3) := by decide +kernel
theorem dL_law_645 : decode cL_law 645 = .ok (.istore 5, 2) := by decide +kernel
theorem dL_law_647 : decode cL_law 647 = .ok (.aload_n 2, 1) := by decide +kernel
theorem dL_law_648 : decode cL_law 648 = .ok (.aload_n 0, 1) := by decide +kernel
theorem dL_law_649 : decode cL_law 649 = .ok (.iload 4, 2) := by decide +kernel
theorem dL_law_651 : decode cL_law 651 = .ok (.iconst 1, 1) := by decide +kernel
theorem dL_law_652 : decode cL_law 652 = .ok (.iadd, 1) := by decide +kernel
theorem dL_law_653 : decode cL_law 653 = .ok (.iaload, 1) := by decide +kernel
theorem dL_law_654 : decode cL_law 654 = .ok (.aload_n 0, 1) := by decide +kernel
theorem dL_law_655 : decode cL_law 655 = .ok (.iload 4, 2) := by decide +kernel
theorem dL_law_657 : decode cL_law 657 = .ok (.iconst 2, 1) := by decide +kernel
theorem dL_law_658 : decode cL_law 658 = .ok (.iadd, 1) := by decide +kernel
theorem dL_law_659 : decode cL_law 659 = .ok (.iaload, 1) := by decide +kernel
theorem dL_law_660 : decode cL_law 660 = .ok (.ifCond .eq 7, 3) := by decide +kernel
theorem dL_law_663 : decode cL_law 663 = .ok (.iconst 1, 1) := by decide +kernel
theorem dL_law_664 : decode cL_law 664 = .ok (.goto 4, 3) := by decide +kernel
theorem dL_law_667 : decode cL_law 667 = .ok (.iconst 0, 1) := by decide +kernel
theorem dL_law_668 : decode cL_law 668 = .ok (.invokevirtual 111, 3) := by decide +kernel
theorem dL_law_671 : decode cL_law 671 = .ok (.istore 6, 2) := by decide +kernel
theorem dL_law_673 : decode cL_law 673 = .ok (.aload_n 2, 1) := by decide +kernel
theorem dL_law_674 : decode cL_law 674 = .ok (.invokevirtual 83, 3) := by decide +kernel
theorem dL_law_677 : decode cL_law 677 = .ok (.iload 5, 2) := by decide +kernel
theorem dL_law_679 : decode cL_law 679 = .ok (.if_icmp .eq 5, 3) := by decide +kernel
theorem dL_law_682 : decode cL_law 682 = .ok (.iconst 0, 1) := by decide +kernel
theorem dL_law_683 : decode cL_law 683 = .ok (.ireturn, 1) := by decide +kernel
theorem dL_law_684 : decode cL_law 684 = .ok (.iload 5, 2) := by decide +kernel
theorem dL_law_686 : decode cL_law 686 = .ok (.ifCond .ne 15, 3) := by decide +kernel
theorem dL_law_689 : decode cL_law 689 = .ok (.aload_n 3, 1) := by decide +kernel
theorem dL_law_690 : decode cL_law 690 = .ok (.iconst 0, 1) := by decide +kernel
theorem dL_law_691 : decode cL_law 691 = .ok (.laload, 1) := by decide +kernel
theorem dL_law_692 : decode cL_law 692 = .ok (.iload 6, 2) := by decide +kernel
theorem dL_law_694 : decode cL_law 694 = .ok (.i2l, 1) := by decide +kernel
theorem dL_law_695 : decode cL_law 695 = .ok (.lcmp, 1) := by decide +kernel
theorem dL_law_696 : decode cL_law 696 = .ok (.ifCond .eq 5, 3) := by decide +kernel
theorem dL_law_699 : decode cL_law 699 = .ok (.iconst 0, 1) := by decide +kernel
theorem dL_law_700 : decode cL_law 700 = .ok (.ireturn, 1) := by decide +kernel
theorem dL_law_701 : decode cL_law 701 = .ok (.goto 646, 3) := by decide +kernel
theorem dL_law_704 : decode cL_law 704 = .ok (.aload_n 1, 1) := by decide +kernel
theorem dL_law_705 : decode cL_law 705 = .ok (.invokevirtual 112, 3) := by decide +kernel
theorem dL_law_708 : decode cL_law 708 = .ok (.aload_n 2, 1) := by decide +kernel
theorem dL_law_709 : decode cL_law 709 = .ok (.invokevirtual 115, 3) := by decide +kernel
theorem dL_law_712 : decode cL_law 712 = .ok (.if_icmp .eq 635, 3) := by decide +kernel
theorem dL_law_715 : decode cL_law 715 = .ok (.iconst 0, 1) := by decide +kernel
theorem dL_law_716 : decode cL_law 716 = .ok (.ireturn, 1) := by decide +kernel
theorem dL_law_717 : decode cL_law 717 = .ok (.aload_n 1, 1) := by decide +kernel
theorem dL_law_718 : decode cL_law 718 = .ok (.invokevirtual 116, 3) := by decide +kernel
theorem dL_law_721 : decode cL_law 721 = .ok (.aload_n 2, 1) := by decide +kernel
theorem dL_law_722 : decode cL_law 722 = .ok (.invokevirtual 119, 3) := by decide +kernel
theorem dL_law_725 : decode cL_law 725 = .ok (.if_icmp .eq 622, 3) := by decide +kernel
theorem dL_law_728 : decode cL_law 728 = .ok (.iconst 0, 1) := by decide +kernel
theorem dL_law_729 : decode cL_law 729 = .ok (.ireturn, 1) := by decide +kernel
theorem dL_law_730 : decode cL_law 730 = .ok (.aload_n 1, 1) := by decide +kernel
theorem dL_law_731 : decode cL_law 731 = .ok (.aload_n 0, 1) := by decide +kernel
theorem dL_law_732 : decode cL_law 732 = .ok (.iload 4, 2) := by decide +kernel
theorem dL_law_734 : decode cL_law 734 = .ok (.iconst 1, 1) := by decide +kernel
theorem dL_law_735 : decode cL_law 735 = .ok (.iadd, 1) := by decide +kernel
theorem dL_law_736 : decode cL_law 736 = .ok (.iaload, 1) := by decide +kernel
theorem dL_law_737 : decode cL_law 737 = .ok (.aload_n 3, 1) := by decide +kernel
theorem dL_law_738 : decode cL_law 738 = .ok (.invokestatic 120, 3) := by decide +kernel
theorem dL_law_741 : decode cL_law 741 = .ok (.istore 5, 2) := by decide +kernel
theorem dL_law_743 : decode cL_law 743 = .ok (.aload_n 2, 1) := by decide +kernel
theorem dL_law_744 : decode cL_law 744 = .ok (.aload_n 0, 1) := by decide +kernel
theorem dL_law_745 : decode cL_law 745 = .ok (.iload 4, 2) := by decide +kernel
theorem dL_law_747 : decode cL_law 747 = .ok (.iconst 1, 1) := by decide +kernel
theorem dL_law_748 : decode cL_law 748 = .ok (.iadd, 1) := by decide +kernel
theorem dL_law_749 : decode cL_law 749 = .ok (.iaload, 1) := by decide +kernel
theorem dL_law_750 : decode cL_law 750 = .ok (.invokevirtual 122, 3) := by decide +kernel
theorem dL_law_753 : decode cL_law 753 = .ok (.istore 6, 2) := by decide +kernel
theorem dL_law_755 : decode cL_law 755 = .ok (.aload_n 2, 1) := by decide +kernel
theorem dL_law_756 : decode cL_law 756 = .ok (.invokevirtual 83, 3) := by decide +kernel
theorem dL_law_759 : decode cL_law 759 = .ok (.iload 5, 2) := by decide +kernel
theorem dL_law_761 : decode cL_law 761 = .ok (.if_icmp .eq 5, 3) := by decide +kernel
theorem dL_law_764 : decode cL_law 764 = .ok (.iconst 0, 1) := by decide +kernel
theorem dL_law_765 : decode cL_law 765 = .ok (.ireturn, 1) := by decide +kernel
theorem dL_law_766 : decode cL_law 766 = .ok (.iload 5, 2) := by decide +kernel
theorem dL_law_768 : decode cL_law 768 = .ok (.ifCond .ne 15, 3) := by decide +kernel
theorem dL_law_771 : decode cL_law 771 = .ok (.aload_n 3, 1) := by decide +kernel
theorem dL_law_772 : decode cL_law 772 = .ok (.iconst 0, 1) := by decide +kernel
theorem dL_law_773 : decode cL_law 773 = .ok (.laload, 1) := by decide +kernel
theorem dL_law_774 : decode cL_law 774 = .ok (.iload 6, 2) := by decide +kernel
theorem dL_law_776 : decode cL_law 776 = .ok (.i2l, 1) := by decide +kernel
theorem dL_law_777 : decode cL_law 777 = .ok (.lcmp, 1) := by decide +kernel
theorem dL_law_778 : decode cL_law 778 = .ok (.ifCond .eq 5, 3) := by decide +kernel
theorem dL_law_781 : decode cL_law 781 = .ok (.iconst 0, 1) := by decide +kernel
theorem dL_law_782 : decode cL_law 782 = .ok (.ireturn, 1) := by decide +kernel
theorem dL_law_783 : decode cL_law 783 = .ok (.goto 564, 3) := by decide +kernel
theorem dL_law_786 : decode cL_law 786 = .ok (.aload_n 1, 1) := by decide +kernel
theorem dL_law_787 : decode cL_law 787 = .ok (.invokevirtual 123, 3) := by decide +kernel
theorem dL_law_790 : decode cL_law 790 = .ok (.aload_n 2, 1) := by decide +kernel
theorem dL_law_791 : decode cL_law 791 = .ok (.invokevirtual 126, 3) := by decide +kernel
theorem dL_law_794 : decode cL_law 794 = .ok (.if_icmp .eq 553, 3) := by decide +kernel
theorem dL_law_797 : decode cL_law 797 = .ok (.iconst 0, 1) := by decide +kernel
theorem dL_law_798 : decode cL_law 798 = .ok (.ireturn, 1) := by decide +kernel
theorem dL_law_799 : decode cL_law 799 = .ok (.aload_n 1, 1) := by decide +kernel
theorem dL_law_800 : decode cL_law 800 = .ok (.aload_n 0, 1) := by decide +kernel
theorem dL_law_801 : decode cL_law 801 = .ok (.iload 4, 2) := by decide +kernel
theorem dL_law_803 : decode cL_law 803 = .ok (.iconst 1, 1) := by decide +kernel
theorem dL_law_804 : decode cL_law 804 = .ok (.iadd, 1) := by decide +kernel
theorem dL_law_805 : decode cL_law 805 = .ok (.iaload, 1) := by decide +kernel
theorem dL_law_806 : decode cL_law 806 = .ok (.aload_n 3, 1) := by decide +kernel
theorem dL_law_807 : decode cL_law 807 = .ok (.invokestatic 127, 3) := by decide +kernel
theorem dL_law_810 : decode cL_law 810 = .ok (.istore 5, 2) := by decide +kernel
theorem dL_law_812 : decode cL_law 812 = .ok (.aload_n 2, 1) := by decide +kernel
theorem dL_law_813 : decode cL_law 813 = .ok (.aload_n 0, 1) := by decide +kernel
theorem dL_law_814 : decode cL_law 814 = .ok (.iload 4, 2) := by decide +kernel
theorem dL_law_816 : decode cL_law 816 = .ok (.iconst 1, 1) := by decide +kernel
theorem dL_law_817 : decode cL_law 817 = .ok (.iadd, 1) := by decide +kernel
theorem dL_law_818 : decode cL_law 818 = .ok (.iaload, 1) := by decide +kernel
theorem dL_law_819 : decode cL_law 819 = .ok (.invokevirtual 129, 3) := by decide +kernel
theorem dL_law_822 : decode cL_law 822 = .ok (.istore 6, 2) := by decide +kernel
theorem dL_law_824 : decode cL_law 824 = .ok (.aload_n 2, 1) := by decide +kernel
theorem dL_law_825 : decode cL_law 825 = .ok (.invokevirtual 83, 3) := by decide +kernel
theorem dL_law_828 : decode cL_law 828 = .ok (.iload 5, 2) := by decide +kernel
theorem dL_law_830 : decode cL_law 830 = .ok (.if_icmp .eq 5, 3) := by decide +kernel
theorem dL_law_833 : decode cL_law 833 = .ok (.iconst 0, 1) := by decide +kernel
theorem dL_law_834 : decode cL_law 834 = .ok (.ireturn, 1) := by decide +kernel
theorem dL_law_835 : decode cL_law 835 = .ok (.iload 5, 2) := by decide +kernel
theorem dL_law_837 : decode cL_law 837 = .ok (.ifCond .ne 15, 3) := by decide +kernel
theorem dL_law_840 : decode cL_law 840 = .ok (.aload_n 3, 1) := by decide +kernel
theorem dL_law_841 : decode cL_law 841 = .ok (.iconst 0, 1) := by decide +kernel
theorem dL_law_842 : decode cL_law 842 = .ok (.laload, 1) := by decide +kernel
theorem dL_law_843 : decode cL_law 843 = .ok (.iload 6, 2) := by decide +kernel
theorem dL_law_845 : decode cL_law 845 = .ok (.i2l, 1) := by decide +kernel
theorem dL_law_846 : decode cL_law 846 = .ok (.lcmp, 1) := by decide +kernel
theorem dL_law_847 : decode cL_law 847 = .ok (.ifCond .eq 5, 3) := by decide +kernel
theorem dL_law_850 : decode cL_law 850 = .ok (.iconst 0, 1) := by decide +kernel
theorem dL_law_851 : decode cL_law 851 = .ok (.ireturn, 1) := by decide +kernel
theorem dL_law_852 : decode cL_law 852 = .ok (.goto 495, 3) := by decide +kernel
theorem dL_law_855 : decode cL_law 855 = .ok (.aload_n 1, 1) := by decide +kernel
theorem dL_law_856 : decode cL_law 856 = .ok (.aload_n 0, 1) := by decide +kernel
theorem dL_law_857 : decode cL_law 857 = .ok (.iload 4, 2) := by decide +kernel
theorem dL_law_859 : decode cL_law 859 = .ok (.iconst 1, 1) := by decide +kernel
theorem dL_law_860 : decode cL_law 860 = .ok (.iadd, 1) := by decide +kernel
theorem dL_law_861 : decode cL_law 861 = .ok (.iaload, 1) := by decide +kernel
theorem dL_law_862 : decode cL_law 862 = .ok (.aload_n 3, 1) := by decide +kernel
theorem dL_law_863 : decode cL_law 863 = .ok (.invokestatic 130, 3) := by decide +kernel
theorem dL_law_866 : decode cL_law 866 = .ok (.istore 5, 2) := by decide +kernel
theorem dL_law_868 : decode cL_law 868 = .ok (.aload_n 2, 1) := by decide +kernel
theorem dL_law_869 : decode cL_law 869 = .ok (.aload_n 0, 1) := by decide +kernel
theorem dL_law_870 : decode cL_law 870 = .ok (.iload 4, 2) := by decide +kernel
theorem dL_law_872 : decode cL_law 872 = .ok (.iconst 1, 1) := by decide +kernel
theorem dL_law_873 : decode cL_law 873 = .ok (.iadd, 1) := by decide +kernel
theorem dL_law_874 : decode cL_law 874 = .ok (.iaload, 1) := by decide +kernel
theorem dL_law_875 : decode cL_law 875 = .ok (.invokevirtual 132, 3) := by decide +kernel
theorem dL_law_878 : decode cL_law 878 = .ok (.istore 6, 2) := by decide +kernel
theorem dL_law_880 : decode cL_law 880 = .ok (.aload_n 2, 1) := by decide +kernel
theorem dL_law_881 : decode cL_law 881 = .ok (.invokevirtual 83, 3) := by decide +kernel
theorem dL_law_884 : decode cL_law 884 = .ok (.iload 5, 2) := by decide +kernel
theorem dL_law_886 : decode cL_law 886 = .ok (.if_icmp .eq 5, 3) := by decide +kernel
theorem dL_law_889 : decode cL_law 889 = .ok (.iconst 0, 1) := by decide +kernel
theorem dL_law_890 : decode cL_law 890 = .ok (.ireturn, 1) := by decide +kernel
theorem dL_law_891 : decode cL_law 891 = .ok (.iload 5, 2) := by decide +kernel
theorem dL_law_893 : decode cL_law 893 = .ok (.ifCond .ne 15, 3) := by decide +kernel
theorem dL_law_896 : decode cL_law 896 = .ok (.aload_n 3, 1) := by decide +kernel
theorem dL_law_897 : decode cL_law 897 = .ok (.iconst 0, 1) := by decide +kernel
theorem dL_law_898 : decode cL_law 898 = .ok (.laload, 1) := by decide +kernel
theorem dL_law_899 : decode cL_law 899 = .ok (.iload 6, 2) := by decide +kernel
theorem dL_law_901 : decode cL_law 901 = .ok (.i2l, 1) := by decide +kernel
theorem dL_law_902 : decode cL_law 902 = .ok (.lcmp, 1) := by decide +kernel
theorem dL_law_903 : decode cL_law 903 = .ok (.ifCond .eq 5, 3) := by decide +kernel
theorem dL_law_906 : decode cL_law 906 = .ok (.iconst 0, 1) := by decide +kernel
theorem dL_law_907 : decode cL_law 907 = .ok (.ireturn, 1) := by decide +kernel
theorem dL_law_908 : decode cL_law 908 = .ok (.goto 439, 3) := by decide +kernel
theorem dL_law_911 : decode cL_law 911 = .ok (.aload_n 1, 1) := by decide +kernel
theorem dL_law_912 : decode cL_law 912 = .ok (.aload_n 0, 1) := by decide +kernel
theorem dL_law_913 : decode cL_law 913 = .ok (.iload 4, 2) := by decide +kernel
theorem dL_law_915 : decode cL_law 915 = .ok (.iconst 1, 1) := by decide +kernel
theorem dL_law_916 : decode cL_law 916 = .ok (.iadd, 1) := by decide +kernel
theorem dL_law_917 : decode cL_law 917 = .ok (.iaload, 1) := by decide +kernel
theorem dL_law_918 : decode cL_law 918 = .ok (.aload_n 3, 1) := by decide +kernel
theorem dL_law_919 : decode cL_law 919 = .ok (.invokestatic 133, 3) := by decide +kernel
theorem dL_law_922 : decode cL_law 922 = .ok (.istore 5, 2) := by decide +kernel
theorem dL_law_924 : decode cL_law 924 = .ok (.aload_n 2, 1) := by decide +kernel
theorem dL_law_925 : decode cL_law 925 = .ok (.aload_n 0, 1) := by decide +kernel
theorem dL_law_926 : decode cL_law 926 = .ok (.iload 4, 2) := by decide +kernel
theorem dL_law_928 : decode cL_law 928 = .ok (.iconst 1, 1) := by decide +kernel
theorem dL_law_929 : decode cL_law 929 = .ok (.iadd, 1) := by decide +kernel
theorem dL_law_930 : decode cL_law 930 = .ok (.iaload, 1) := by decide +kernel
theorem dL_law_931 : decode cL_law 931 = .ok (.invokevirtual 135, 3) := by decide +kernel
theorem dL_law_934 : decode cL_law 934 = .ok (.istore 6, 2) := by decide +kernel
theorem dL_law_936 : decode cL_law 936 = .ok (.aload_n 2, 1) := by decide +kernel
theorem dL_law_937 : decode cL_law 937 = .ok (.invokevirtual 83, 3) := by decide +kernel
theorem dL_law_940 : decode cL_law 940 = .ok (.iload 5, 2) := by decide +kernel
theorem dL_law_942 : decode cL_law 942 = .ok (.if_icmp .eq 5, 3) := by decide +kernel
theorem dL_law_945 : decode cL_law 945 = .ok (.iconst 0, 1) := by decide +kernel
theorem dL_law_946 : decode cL_law 946 = .ok (.ireturn, 1) := by decide +kernel
theorem dL_law_947 : decode cL_law 947 = .ok (.iload 5, 2) := by decide +kernel
theorem dL_law_949 : decode cL_law 949 = .ok (.ifCond .ne 15, 3) := by decide +kernel
theorem dL_law_952 : decode cL_law 952 = .ok (.aload_n 3, 1) := by decide +kernel
theorem dL_law_953 : decode cL_law 953 = .ok (.iconst 0, 1) := by decide +kernel
theorem dL_law_954 : decode cL_law 954 = .ok (.laload, 1) := by decide +kernel
theorem dL_law_955 : decode cL_law 955 = .ok (.iload 6, 2) := by decide +kernel
theorem dL_law_957 : decode cL_law 957 = .ok (.i2l, 1) := by decide +kernel
theorem dL_law_958 : decode cL_law 958 = .ok (.lcmp, 1) := by decide +kernel
theorem dL_law_959 : decode cL_law 959 = .ok (.ifCond .eq 5, 3) := by decide +kernel
theorem dL_law_962 : decode cL_law 962 = .ok (.iconst 0, 1) := by decide +kernel
theorem dL_law_963 : decode cL_law 963 = .ok (.ireturn, 1) := by decide +kernel
theorem dL_law_964 : decode cL_law 964 = .ok (.goto 383, 3) := by decide +kernel
theorem dL_law_967 : decode cL_law 967 = .ok (.aload_n 1, 1) := by decide +kernel
theorem dL_law_968 : decode cL_law 968 = .ok (.aload_n 0, 1) := by decide +kernel
theorem dL_law_969 : decode cL_law 969 = .ok (.iload 4, 2) := by decide +kernel
theorem dL_law_971 : decode cL_law 971 = .ok (.iconst 1, 1) := by decide +kernel
theorem dL_law_972 : decode cL_law 972 = .ok (.iadd, 1) := by decide +kernel
theorem dL_law_973 : decode cL_law 973 = .ok (.iaload, 1) := by decide +kernel
theorem dL_law_974 : decode cL_law 974 = .ok (.aload_n 3, 1) := by decide +kernel
theorem dL_law_975 : decode cL_law 975 = .ok (.invokestatic 136, 3) := by decide +kernel
theorem dL_law_978 : decode cL_law 978 = .ok (.istore 5, 2) := by decide +kernel
theorem dL_law_980 : decode cL_law 980 = .ok (.aload_n 2, 1) := by decide +kernel
theorem dL_law_981 : decode cL_law 981 = .ok (.aload_n 0, 1) := by decide +kernel
theorem dL_law_982 : decode cL_law 982 = .ok (.iload 4, 2) := by decide +kernel
theorem dL_law_984 : decode cL_law 984 = .ok (.iconst 1, 1) := by decide +kernel
theorem dL_law_985 : decode cL_law 985 = .ok (.iadd, 1) := by decide +kernel
theorem dL_law_986 : decode cL_law 986 = .ok (.iaload, 1) := by decide +kernel
theorem dL_law_987 : decode cL_law 987 = .ok (.invokevirtual 138, 3) := by decide +kernel
theorem dL_law_990 : decode cL_law 990 = .ok (.istore 6, 2) := by decide +kernel
theorem dL_law_992 : decode cL_law 992 = .ok (.aload_n 2, 1) := by decide +kernel
theorem dL_law_993 : decode cL_law 993 = .ok (.invokevirtual 83, 3) := by decide +kernel
theorem dL_law_996 : decode cL_law 996 = .ok (.iload 5, 2) := by decide +kernel
theorem dL_law_998 : decode cL_law 998 = .ok (.if_icmp .eq 5, 3) := by decide +kernel
theorem dL_law_1001 : decode cL_law 1001 = .ok (.iconst 0, 1) := by decide +kernel
theorem dL_law_1002 : decode cL_law 1002 = .ok (.ireturn, 1) := by decide +kernel
theorem dL_law_1003 : decode cL_law 1003 = .ok (.iload 5, 2) := by decide +kernel
theorem dL_law_1005 : decode cL_law 1005 = .ok (.ifCond .ne 15, 3) := by decide +kernel
theorem dL_law_1008 : decode cL_law 1008 = .ok (.aload_n 3, 1) := by decide +kernel
theorem dL_law_1009 : decode cL_law 1009 = .ok (.iconst 0, 1) := by decide +kernel
theorem dL_law_1010 : decode cL_law 1010 = .ok (.laload, 1) := by decide +kernel
theorem dL_law_1011 : decode cL_law 1011 = .ok (.iload 6, 2) := by decide +kernel
theorem dL_law_1013 : decode cL_law 1013 = .ok (.i2l, 1) := by decide +kernel
theorem dL_law_1014 : decode cL_law 1014 = .ok (.lcmp, 1) := by decide +kernel
theorem dL_law_1015 : decode cL_law 1015 = .ok (.ifCond .eq 5, 3) := by decide +kernel
theorem dL_law_1018 : decode cL_law 1018 = .ok (.iconst 0, 1) := by decide +kernel
theorem dL_law_1019 : decode cL_law 1019 = .ok (.ireturn, 1) := by decide +kernel
theorem dL_law_1020 : decode cL_law 1020 = .ok (.goto 327, 3) := by decide +kernel
theorem dL_law_1023 : decode cL_law 1023 = .ok (.aload_n 1, 1) := by decide +kernel
theorem dL_law_1024 : decode cL_law 1024 = .ok (.aload_n 0, 1) := by decide +kernel
theorem dL_law_1025 : decode cL_law 1025 = .ok (.iload 4, 2) := by decide +kernel
theorem dL_law_1027 : decode cL_law 1027 = .ok (.iconst 1, 1) := by decide +kernel
theorem dL_law_1028 : decode cL_law 1028 = .ok (.iadd, 1) := by decide +kernel
theorem dL_law_1029 : decode cL_law 1029 = .ok (.iaload, 1) := by decide +kernel
theorem dL_law_1030 : decode cL_law 1030 = .ok (.aload_n 3, 1) := by decide +kernel
theorem dL_law_1031 : decode cL_law 1031 = .ok (.invokestatic 139, 3) := by decide +kernel
theorem dL_law_1034 : decode cL_law 1034 = .ok (.istore 5, 2) := by decide +kernel
theorem dL_law_1036 : decode cL_law 1036 = .ok (.aload_n 2, 1) := by decide +kernel
theorem dL_law_1037 : decode cL_law 1037 = .ok (.aload_n 0, 1) := by decide +kernel
theorem dL_law_1038 : decode cL_law 1038 = .ok (.iload 4, 2) := by decide +kernel
theorem dL_law_1040 : decode cL_law 1040 = .ok (.iconst 1, 1) := by decide +kernel
theorem dL_law_1041 : decode cL_law 1041 = .ok (.iadd, 1) := by decide +kernel
theorem dL_law_1042 : decode cL_law 1042 = .ok (.iaload, 1) := by decide +kernel
theorem dL_law_1043 : decode cL_law 1043 = .ok (.invokevirtual 141, 3) := by decide +kernel
theorem dL_law_1046 : decode cL_law 1046 = .ok (.istore 6, 2) := by decide +kernel
theorem dL_law_1048 : decode cL_law 1048 = .ok (.aload_n 2, 1) := by decide +kernel
theorem dL_law_1049 : decode cL_law 1049 = .ok (.invokevirtual 83, 3) := by decide +kernel
theorem dL_law_1052 : decode cL_law 1052 = .ok (.iload 5, 2) := by decide +kernel
theorem dL_law_1054 : decode cL_law 1054 = .ok (.if_icmp .eq 5, 3) := by decide +kernel
theorem dL_law_1057 : decode cL_law 1057 = .ok (.iconst 0, 1) := by decide +kernel
theorem dL_law_1058 : decode cL_law 1058 = .ok (.ireturn, 1) := by decide +kernel
theorem dL_law_1059 : decode cL_law 1059 = .ok (.iload 5, 2) := by decide +kernel
theorem dL_law_1061 : decode cL_law 1061 = .ok (.ifCond .ne 15, 3) := by decide +kernel
theorem dL_law_1064 : decode cL_law 1064 = .ok (.aload_n 3, 1) := by decide +kernel
theorem dL_law_1065 : decode cL_law 1065 = .ok (.iconst 0, 1) := by decide +kernel
theorem dL_law_1066 : decode cL_law 1066 = .ok (.laload, 1) := by decide +kernel
theorem dL_law_1067 : decode cL_law 1067 = .ok (.iload 6, 2) := by decide +kernel
theorem dL_law_1069 : decode cL_law 1069 = .ok (.i2l, 1) := by decide +kernel
theorem dL_law_1070 : decode cL_law 1070 = .ok (.lcmp, 1) := by decide +kernel
theorem dL_law_1071 : decode cL_law 1071 = .ok (.ifCond .eq 5, 3) := by decide +kernel
theorem dL_law_1074 : decode cL_law 1074 = .ok (.iconst 0, 1) := by decide +kernel
theorem dL_law_1075 : decode cL_law 1075 = .ok (.ireturn, 1) := by decide +kernel
theorem dL_law_1076 : decode cL_law 1076 = .ok (.goto 271, 3) := by decide +kernel
theorem dL_law_1079 : decode cL_law 1079 = .ok (.aload_n 1, 1) := by decide +kernel
theorem dL_law_1080 : decode cL_law 1080 = .ok (.aload_n 0, 1) := by decide +kernel
theorem dL_law_1081 : decode cL_law 1081 = .ok (.iload 4, 2) := by decide +kernel
theorem dL_law_1083 : decode cL_law 1083 = .ok (.iconst 1, 1) := by decide +kernel
theorem dL_law_1084 : decode cL_law 1084 = .ok (.iadd, 1) := by decide +kernel
theorem dL_law_1085 : decode cL_law 1085 = .ok (.iaload, 1) := by decide +kernel
theorem dL_law_1086 : decode cL_law 1086 = .ok (.aload_n 0, 1) := by decide +kernel
theorem dL_law_1087 : decode cL_law 1087 = .ok (.iload 4, 2) := by decide +kernel
theorem dL_law_1089 : decode cL_law 1089 = .ok (.iconst 2, 1) := by decide +kernel
theorem dL_law_1090 : decode cL_law 1090 = .ok (.iadd, 1) := by decide +kernel
theorem dL_law_1091 : decode cL_law 1091 = .ok (.iaload, 1) := by decide +kernel
theorem dL_law_1092 : decode cL_law 1092 = .ok (.aload_n 3, 1) := by decide +kernel
theorem dL_law_1093 : decode cL_law 1093 = .ok (.invokestatic 142, 3) := by decide +kernel
theorem dL_law_1096 : decode cL_law 1096 = .ok (.istore 5, 2) := by decide +kernel
theorem dL_law_1098 : decode cL_law 1098 = .ok (.aload_n 2, 1) := by decide +kernel
theorem dL_law_1099 : decode cL_law 1099 = .ok (.aload_n 0, 1) := by decide +kernel
theorem dL_law_1100 : decode cL_law 1100 = .ok (.iload 4, 2) := by decide +kernel
theorem dL_law_1102 : decode cL_law 1102 = .ok (.iconst 1, 1) := by decide +kernel
theorem dL_law_1103 : decode cL_law 1103 = .ok (.iadd, 1) := by decide +kernel
theorem dL_law_1104 : decode cL_law 1104 = .ok (.iaload, 1) := by decide +kernel
theorem dL_law_1105 : decode cL_law 1105 = .ok (.aload_n 0, 1) := by decide +kernel
theorem dL_law_1106 : decode cL_law 1106 = .ok (.iload 4, 2) := by decide +kernel
theorem dL_law_1108 : decode cL_law 1108 = .ok (.iconst 2, 1) := by decide +kernel
theorem dL_law_1109 : decode cL_law 1109 = .ok (.iadd, 1) := by decide +kernel
theorem dL_law_1110 : decode cL_law 1110 = .ok (.iaload, 1) := by decide +kernel
theorem dL_law_1111 : decode cL_law 1111 = .ok (.invokevirtual 144, 3) := by decide +kernel
theorem dL_law_1114 : decode cL_law 1114 = .ok (.istore 6, 2) := by decide +kernel
theorem dL_law_1116 : decode cL_law 1116 = .ok (.aload_n 2, 1) := by decide +kernel
theorem dL_law_1117 : decode cL_law 1117 = .ok (.invokevirtual 83, 3) := by decide +kernel
theorem dL_law_1120 : decode cL_law 1120 = .ok (.iload 5, 2) := by decide +kernel
theorem dL_law_1122 : decode cL_law 1122 = .ok (.if_icmp .eq 5, 3) := by decide +kernel
theorem dL_law_1125 : decode cL_law 1125 = .ok (.iconst 0, 1) := by decide +kernel
theorem dL_law_1126 : decode cL_law 1126 = .ok (.ireturn, 1) := by decide +kernel
theorem dL_law_1127 : decode cL_law 1127 = .ok (.iload 5, 2) := by decide +kernel
theorem dL_law_1129 : decode cL_law 1129 = .ok (.ifCond .ne 15, 3) := by decide +kernel
theorem dL_law_1132 : decode cL_law 1132 = .ok (.aload_n 3, 1) := by decide +kernel
theorem dL_law_1133 : decode cL_law 1133 = .ok (.iconst 0, 1) := by decide +kernel
theorem dL_law_1134 : decode cL_law 1134 = .ok (.laload, 1) := by decide +kernel
theorem dL_law_1135 : decode cL_law 1135 = .ok (.iload 6, 2) := by decide +kernel
theorem dL_law_1137 : decode cL_law 1137 = .ok (.i2l, 1) := by decide +kernel
theorem dL_law_1138 : decode cL_law 1138 = .ok (.lcmp, 1) := by decide +kernel
theorem dL_law_1139 : decode cL_law 1139 = .ok (.ifCond .eq 5, 3) := by decide +kernel
theorem dL_law_1142 : decode cL_law 1142 = .ok (.iconst 0, 1) := by decide +kernel
theorem dL_law_1143 : decode cL_law 1143 = .ok (.ireturn, 1) := by decide +kernel
theorem dL_law_1144 : decode cL_law 1144 = .ok (.goto 203, 3) := by decide +kernel
theorem dL_law_1147 : decode cL_law 1147 = .ok (.aload_n 1, 1) := by decide +kernel
theorem dL_law_1148 : decode cL_law 1148 = .ok (.invokevirtual 145, 3) := by decide +kernel
theorem dL_law_1151 : decode cL_law 1151 = .ok (.aload_n 2, 1) := by decide +kernel
theorem dL_law_1152 : decode cL_law 1152 = .ok (.invokevirtual 148, 3) := by decide +kernel
theorem dL_law_1155 : decode cL_law 1155 = .ok (.if_icmp .eq 192, 3) := by decide +kernel
theorem dL_law_1158 : decode cL_law 1158 = .ok (.iconst 0, 1) := by decide +kernel
theorem dL_law_1159 : decode cL_law 1159 = .ok (.ireturn, 1) := by decide +kernel
theorem dL_law_1160 : decode cL_law 1160 = .ok (.aload_n 1, 1) := by decide +kernel
theorem dL_law_1161 : decode cL_law 1161 = .ok (.aload_n 0, 1) := by decide +kernel
theorem dL_law_1162 : decode cL_law 1162 = .ok (.iload 4, 2) := by decide +kernel
theorem dL_law_1164 : decode cL_law 1164 = .ok (.iconst 1, 1) := by decide +kernel
theorem dL_law_1165 : decode cL_law 1165 = .ok (.iadd, 1) := by decide +kernel
theorem dL_law_1166 : decode cL_law 1166 = .ok (.iaload, 1) := by decide +kernel
theorem dL_law_1167 : decode cL_law 1167 = .ok (.aload_n 0, 1) := by decide +kernel
theorem dL_law_1168 : decode cL_law 1168 = .ok (.iload 4, 2) := by decide +kernel
theorem dL_law_1170 : decode cL_law 1170 = .ok (.iconst 2, 1) := by decide +kernel
theorem dL_law_1171 : decode cL_law 1171 = .ok (.iadd, 1) := by decide +kernel
theorem dL_law_1172 : decode cL_law 1172 = .ok (.iaload, 1) := by decide +kernel
theorem dL_law_1173 : decode cL_law 1173 = .ok (.aload_n 0, 1) := by decide +kernel
theorem dL_law_1174 : decode cL_law 1174 = .ok (.iload 4, 2) := by decide +kernel
theorem dL_law_1176 : decode cL_law 1176 = .ok (.iconst 3, 1) := by decide +kernel
theorem dL_law_1177 : decode cL_law 1177 = .ok (.iadd, 1) := by decide +kernel
theorem dL_law_1178 : decode cL_law 1178 = .ok (.iaload, 1) := by decide +kernel
theorem dL_law_1179 : decode cL_law 1179 = .ok (.aload_n 3, 1) := by decide +kernel
theorem dL_law_1180 : decode cL_law 1180 = .ok (.invokestatic 149, 3) := by decide +kernel
theorem dL_law_1183 : decode cL_law 1183 = .ok (.istore 5, 2) := by decide +kernel
theorem dL_law_1185 : decode cL_law 1185 = .ok (.aload_n 2, 1) := by decide +kernel
theorem dL_law_1186 : decode cL_law 1186 = .ok (.aload_n 0, 1) := by decide +kernel
theorem dL_law_1187 : decode cL_law 1187 = .ok (.iload 4, 2) := by decide +kernel
theorem dL_law_1189 : decode cL_law 1189 = .ok (.iconst 1, 1) := by decide +kernel
theorem dL_law_1190 : decode cL_law 1190 = .ok (.iadd, 1) := by decide +kernel
theorem dL_law_1191 : decode cL_law 1191 = .ok (.iaload, 1) := by decide +kernel
theorem dL_law_1192 : decode cL_law 1192 = .ok (.aload_n 0, 1) := by decide +kernel
theorem dL_law_1193 : decode cL_law 1193 = .ok (.iload 4, 2) := by decide +kernel
theorem dL_law_1195 : decode cL_law 1195 = .ok (.iconst 2, 1) := by decide +kernel
theorem dL_law_1196 : decode cL_law 1196 = .ok (.iadd, 1) := by decide +kernel
theorem dL_law_1197 : decode cL_law 1197 = .ok (.iaload, 1) := by decide +kernel
theorem dL_law_1198 : decode cL_law 1198 = .ok (.aload_n 0, 1) := by decide +kernel
theorem dL_law_1199 : decode cL_law 1199 = .ok (.iload 4, 2) := by decide +kernel
theorem dL_law_1201 : decode cL_law 1201 = .ok (.iconst 3, 1) := by decide +kernel
theorem dL_law_1202 : decode cL_law 1202 = .ok (.iadd, 1) := by decide +kernel
theorem dL_law_1203 : decode cL_law 1203 = .ok (.iaload, 1) := by decide +kernel
theorem dL_law_1204 : decode cL_law 1204 = .ok (.invokevirtual 151, 3) := by decide +kernel
theorem dL_law_1207 : decode cL_law 1207 = .ok (.istore 6, 2) := by decide +kernel
theorem dL_law_1209 : decode cL_law 1209 = .ok (.aload_n 2, 1) := by decide +kernel
theorem dL_law_1210 : decode cL_law 1210 = .ok (.invokevirtual 83, 3) := by decide +kernel
theorem dL_law_1213 : decode cL_law 1213 = .ok (.iload 5, 2) := by decide +kernel
theorem dL_law_1215 : decode cL_law 1215 = .ok (.if_icmp .eq 5, 3) := by decide +kernel
theorem dL_law_1218 : decode cL_law 1218 = .ok (.iconst 0, 1) := by decide +kernel
theorem dL_law_1219 : decode cL_law 1219 = .ok (.ireturn, 1) := by decide +kernel
theorem dL_law_1220 : decode cL_law 1220 = .ok (.iload 5, 2) := by decide +kernel
theorem dL_law_1222 : decode cL_law 1222 = .ok (.ifCond .ne 22, 3) := by decide +kernel
theorem dL_law_1225 : decode cL_law 1225 = .ok (.aload_n 3, 1) := by decide +kernel
theorem dL_law_1226 : decode cL_law 1226 = .ok (.iconst 0, 1) := by decide +kernel
theorem dL_law_1227 : decode cL_law 1227 = .ok (.laload, 1) := by decide +kernel
theorem dL_law_1228 : decode cL_law 1228 = .ok (.iload 6, 2) := by decide +kernel
theorem dL_law_1230 : decode cL_law 1230 = .ok (.ifCond .eq 7, 3) := by decide +kernel
theorem dL_law_1233 : decode cL_law 1233 = .ok (.lconst 1, 1) := by decide +kernel
theorem dL_law_1234 : decode cL_law 1234 = .ok (.goto 4, 3) := by decide +kernel
theorem dL_law_1237 : decode cL_law 1237 = .ok (.lconst 0, 1) := by decide +kernel
theorem dL_law_1238 : decode cL_law 1238 = .ok (.lcmp, 1) := by decide +kernel
theorem dL_law_1239 : decode cL_law 1239 = .ok (.ifCond .eq 5, 3) := by decide +kernel
theorem dL_law_1242 : decode cL_law 1242 = .ok (.iconst 0, 1) := by decide +kernel
theorem dL_law_1243 : decode cL_law 1243 = .ok (.ireturn, 1) := by decide +kernel
theorem dL_law_1244 : decode cL_law 1244 = .ok (.goto 103, 3) := by decide +kernel
theorem dL_law_1247 : decode cL_law 1247 = .ok (.aload_n 1, 1) := by decide +kernel
theorem dL_law_1248 : decode cL_law 1248 = .ok (.aload_n 0, 1) := by decide +kernel
theorem dL_law_1249 : decode cL_law 1249 = .ok (.iload 4, 2) := by decide +kernel
theorem dL_law_1251 : decode cL_law 1251 = .ok (.iconst 1, 1) := by decide +kernel
theorem dL_law_1252 : decode cL_law 1252 = .ok (.iadd, 1) := by decide +kernel
theorem dL_law_1253 : decode cL_law 1253 = .ok (.iaload, 1) := by decide +kernel
theorem dL_law_1254 : decode cL_law 1254 = .ok (.aload_n 0, 1) := by decide +kernel
theorem dL_law_1255 : decode cL_law 1255 = .ok (.iload 4, 2) := by decide +kernel
theorem dL_law_1257 : decode cL_law 1257 = .ok (.iconst 2, 1) := by decide +kernel
theorem dL_law_1258 : decode cL_law 1258 = .ok (.iadd, 1) := by decide +kernel
theorem dL_law_1259 : decode cL_law 1259 = .ok (.iaload, 1) := by decide +kernel
theorem dL_law_1260 : decode cL_law 1260 = .ok (.aload_n 0, 1) := by decide +kernel
theorem dL_law_1261 : decode cL_law 1261 = .ok (.iload 4, 2) := by decide +kernel
theorem dL_law_1263 : decode cL_law 1263 = .ok (.iconst 3, 1) := by decide +kernel
theorem dL_law_1264 : decode cL_law 1264 = .ok (.iadd, 1) := by decide +kernel
theorem dL_law_1265 : decode cL_law 1265 = .ok (.iaload, 1) := by decide +kernel
theorem dL_law_1266 : decode cL_law 1266 = .ok (.aload_n 3, 1) := by decide +kernel
theorem dL_law_1267 : decode cL_law 1267 = .ok (.invokestatic 152, 3) := by decide +kernel
theorem dL_law_1270 : decode cL_law 1270 = .ok (.istore 5, 2) := by decide +kernel
theorem dL_law_1272 : decode cL_law 1272 = .ok (.aload_n 2, 1) := by decide +kernel
theorem dL_law_1273 : decode cL_law 1273 = .ok (.aload_n 0, 1) := by decide +kernel
theorem dL_law_1274 : decode cL_law 1274 = .ok (.iload 4, 2) := by decide +kernel
theorem dL_law_1276 : decode cL_law 1276 = .ok (.iconst 1, 1) := by decide +kernel
theorem dL_law_1277 : decode cL_law 1277 = .ok (.iadd, 1) := by decide +kernel
theorem dL_law_1278 : decode cL_law 1278 = .ok (.iaload, 1) := by decide +kernel
theorem dL_law_1279 : decode cL_law 1279 = .ok (.aload_n 0, 1) := by decide +kernel
theorem dL_law_1280 : decode cL_law 1280 = .ok (.iload 4, 2) := by decide +kernel
theorem dL_law_1282 : decode cL_law 1282 = .ok (.iconst 2, 1) := by decide +kernel
theorem dL_law_1283 : decode cL_law 1283 = .ok (.iadd, 1) := by decide +kernel
theorem dL_law_1284 : decode cL_law 1284 = .ok (.iaload, 1) := by decide +kernel
theorem dL_law_1285 : decode cL_law 1285 = .ok (.aload_n 0, 1) := by decide +kernel
theorem dL_law_1286 : decode cL_law 1286 = .ok (.iload 4, 2) := by decide +kernel
theorem dL_law_1288 : decode cL_law 1288 = .ok (.iconst 3, 1) := by decide +kernel
theorem dL_law_1289 : decode cL_law 1289 = .ok (.iadd, 1) := by decide +kernel
theorem dL_law_1290 : decode cL_law 1290 = .ok (.iaload, 1) := by decide +kernel
theorem dL_law_1291 : decode cL_law 1291 = .ok (.invokevirtual 154, 3) := by decide +kernel
theorem dL_law_1294 : decode cL_law 1294 = .ok (.istore 6, 2) := by decide +kernel
theorem dL_law_1296 : decode cL_law 1296 = .ok (.aload_n 2, 1) := by decide +kernel
theorem dL_law_1297 : decode cL_law 1297 = .ok (.invokevirtual 83, 3) := by decide +kernel
theorem dL_law_1300 : decode cL_law 1300 = .ok (.iload 5, 2) := by decide +kernel
theorem dL_law_1302 : decode cL_law 1302 = .ok (.if_icmp .eq 5, 3) := by decide +kernel
theorem dL_law_1305 : decode cL_law 1305 = .ok (.iconst 0, 1) := by decide +kernel
theorem dL_law_1306 : decode cL_law 1306 = .ok (.ireturn, 1) := by decide +kernel
theorem dL_law_1307 : decode cL_law 1307 = .ok (.iload 5, 2) := by decide +kernel
theorem dL_law_1309 : decode cL_law 1309 = .ok (.ifCond .ne 22, 3) := by decide +kernel
theorem dL_law_1312 : decode cL_law 1312 = .ok (.aload_n 3, 1) := by decide +kernel
theorem dL_law_1313 : decode cL_law 1313 = .ok (.iconst 0, 1) := by decide +kernel
theorem dL_law_1314 : decode cL_law 1314 = .ok (.laload, 1) := by decide +kernel
theorem dL_law_1315 : decode cL_law 1315 = .ok (.iload 6, 2) := by decide +kernel
theorem dL_law_1317 : decode cL_law 1317 = .ok (.ifCond .eq 7, 3) := by decide +kernel
theorem dL_law_1320 : decode cL_law 1320 = .ok (.lconst 1, 1) := by decide +kernel
theorem dL_law_1321 : decode cL_law 1321 = .ok (.goto 4, 3) := by decide +kernel
theorem dL_law_1324 : decode cL_law 1324 = .ok (.lconst 0, 1) := by decide +kernel
theorem dL_law_1325 : decode cL_law 1325 = .ok (.lcmp, 1) := by decide +kernel
theorem dL_law_1326 : decode cL_law 1326 = .ok (.ifCond .eq 5, 3) := by decide +kernel
theorem dL_law_1329 : decode cL_law 1329 = .ok (.iconst 0, 1) := by decide +kernel
theorem dL_law_1330 : decode cL_law 1330 = .ok (.ireturn, 1) := by decide +kernel
theorem dL_law_1331 : decode cL_law 1331 = .ok (.goto 16, 3) := by decide +kernel
theorem dL_law_1334 : decode cL_law 1334 = .ok (.aload_n 1, 1) := by decide +kernel
theorem dL_law_1335 : decode cL_law 1335 = .ok (.invokevirtual 155, 3) := by decide +kernel
theorem dL_law_1338 : decode cL_law 1338 = .ok (.aload_n 2, 1) := by decide +kernel
theorem dL_law_1339 : decode cL_law 1339 = .ok (.invokevirtual 158, 3) := by decide +kernel
theorem dL_law_1342 : decode cL_law 1342 = .ok (.if_icmp .eq 5, 3) := by decide +kernel
theorem dL_law_1345 : decode cL_law 1345 = .ok (.iconst 0, 1) := by decide +kernel
theorem dL_law_1346 : decode cL_law 1346 = .ok (.ireturn, 1) := by decide +kernel
theorem dL_law_1347 : decode cL_law 1347 = .ok (.iinc 4 4, 3) := by decide +kernel
theorem dL_law_1350 : decode cL_law 1350 = .ok (.goto (-1327), 3) := by decide +kernel
theorem dL_law_1353 : decode cL_law 1353 = .ok (.iconst 1, 1) := by decide +kernel
theorem dL_law_1354 : decode cL_law 1354 = .ok (.ireturn, 1) := by decide +kernel
