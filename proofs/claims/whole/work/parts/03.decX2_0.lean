theorem dX2_clear_0 : decode cX2_clear 0 = .ok (.iconst 0, 1) := by decide +kernel
theorem dX2_clear_1 : decode cX2_clear 1 = .ok (.istore_n 1, 1) := by decide +kernel
theorem dX2_clear_2 : decode cX2_clear 2 = .ok (.iload_n 1, 1) := by decide +kernel
theorem dX2_clear_3 : decode cX2_clear 3 = .ok (.aload_n 0, 1) := by decide +kernel
theorem dX2_clear_4 : decode cX2_clear 4 = .ok (.arraylength, 1) := by decide +kernel
theorem dX2_clear_5 : decode cX2_clear 5 = .ok (.if_icmp .ge 13, 3) := by decide +kernel
theorem dX2_clear_8 : decode cX2_clear 8 = .ok (.aload_n 0, 1) := by decide +kernel
theorem dX2_clear_9 : decode cX2_clear 9 = .ok (.iload_n 1, 1) := by decide +kernel
theorem dX2_clear_10 : decode cX2_clear 10 = .ok (.iconst 0, 1) := by decide +kernel
theorem dX2_clear_11 : decode cX2_clear 11 = .ok (.iastore, 1) := by decide +kernel
theorem dX2_clear_12 : decode cX2_clear 12 = .ok (.iinc 1 1, 3) := by decide +kernel
theorem dX2_clear_15 : decode cX2_clear 15 = .ok (.goto (-13), 3) := by decide +kernel
theorem dX2_clear_18 : decode cX2_clear 18 = .ok (.return_, 1) := by decide +kernel
theorem dX2_multiply_0 : decode cX2_multiply 0 = .ok (.iconst 0, 1) := by decide +kernel
theorem dX2_multiply_1 : decode cX2_multiply 1 = .ok (.istore_n 2, 1) := by decide +kernel
theorem dX2_multiply_2 : decode cX2_multiply 2 = .ok (.iload_n 2, 1) := by decide +kernel
theorem dX2_multiply_3 : decode cX2_multiply 3 = .ok (.aload_n 0, 1) := by decide +kernel
theorem dX2_multiply_4 : decode cX2_multiply 4 = .ok (.arraylength, 1) := by decide +kernel
theorem dX2_multiply_5 : decode cX2_multiply 5 = .ok (.if_icmp .ge 21, 3) := by decide +kernel
theorem dX2_multiply_8 : decode cX2_multiply 8 = .ok (.aload_n 0, 1) := by decide +kernel
theorem dX2_multiply_9 : decode cX2_multiply 9 = .ok (.iload_n 2, 1) := by decide +kernel
theorem dX2_multiply_10 : decode cX2_multiply 10 = .ok (.aload_n 0, 1) := by decide +kernel
theorem dX2_multiply_11 : decode cX2_multiply 11 = .ok (.iload_n 2, 1) := by decide +kernel
theorem dX2_multiply_12 : decode cX2_multiply 12 = .ok (.iaload, 1) := by decide +kernel
theorem dX2_multiply_13 : decode cX2_multiply 13 = .ok (.iload_n 1, 1) := by decide +kernel
theorem dX2_multiply_14 : decode cX2_multiply 14 = .ok (.imul, 1) := by decide +kernel
theorem dX2_multiply_15 : decode cX2_multiply 15 = .ok (.sipush 10007, 3) := by decide +kernel
theorem dX2_multiply_18 : decode cX2_multiply 18 = .ok (.irem, 1) := by decide +kernel
theorem dX2_multiply_19 : decode cX2_multiply 19 = .ok (.iastore, 1) := by decide +kernel
theorem dX2_multiply_20 : decode cX2_multiply 20 = .ok (.iinc 2 1, 3) := by decide +kernel
theorem dX2_multiply_23 : decode cX2_multiply 23 = .ok (.goto (-21), 3) := by decide +kernel
theorem dX2_multiply_26 : decode cX2_multiply 26 = .ok (.return_, 1) := by decide +kernel
theorem dX2_addTimes_0 : decode cX2_addTimes 0 = .ok (.iconst 0, 1) := by decide +kernel
theorem dX2_addTimes_1 : decode cX2_addTimes 1 = .ok (.istore_n 3, 1) := by decide +kernel
theorem dX2_addTimes_2 : decode cX2_addTimes 2 = .ok (.iload_n 3, 1) := by decide +kernel
theorem dX2_addTimes_3 : decode cX2_addTimes 3 = .ok (.aload_n 0, 1) := by decide +kernel
theorem dX2_addTimes_4 : decode cX2_addTimes 4 = .ok (.arraylength, 1) := by decide +kernel
theorem dX2_addTimes_5 : decode cX2_addTimes 5 = .ok (.if_icmp .ge 31, 3) := by decide +kernel
theorem dX2_addTimes_8 : decode cX2_addTimes 8 = .ok (.iload_n 3, 1) := by decide +kernel
theorem dX2_addTimes_9 : decode cX2_addTimes 9 = .ok (.aload_n 1, 1) := by decide +kernel
theorem dX2_addTimes_10 : decode cX2_addTimes 10 = .ok (.arraylength, 1) := by decide +kernel
theorem dX2_addTimes_11 : decode cX2_addTimes 11 = .ok (.if_icmp .ge 25, 3) := by decide +kernel
theorem dX2_addTimes_14 : decode cX2_addTimes 14 = .ok (.aload_n 0, 1) := by decide +kernel
theorem dX2_addTimes_15 : decode cX2_addTimes 15 = .ok (.iload_n 3, 1) := by decide +kernel
theorem dX2_addTimes_16 : decode cX2_addTimes 16 = .ok (.aload_n 0, 1) := by decide +kernel
theorem dX2_addTimes_17 : decode cX2_addTimes 17 = .ok (.iload_n 3, 1) := by decide +kernel
theorem dX2_addTimes_18 : decode cX2_addTimes 18 = .ok (.iaload, 1) := by decide +kernel
theorem dX2_addTimes_19 : decode cX2_addTimes 19 = .ok (.aload_n 1, 1) := by decide +kernel
theorem dX2_addTimes_20 : decode cX2_addTimes 20 = .ok (.iload_n 3, 1) := by decide +kernel
theorem dX2_addTimes_21 : decode cX2_addTimes 21 = .ok (.iaload, 1) := by decide +kernel
theorem dX2_addTimes_22 : decode cX2_addTimes 22 = .ok (.iload_n 2, 1) := by decide +kernel
theorem dX2_addTimes_23 : decode cX2_addTimes 23 = .ok (.imul, 1) := by decide +kernel
theorem dX2_addTimes_24 : decode cX2_addTimes 24 = .ok (.iadd, 1) := by decide +kernel
theorem dX2_addTimes_25 : decode cX2_addTimes 25 = .ok (.sipush 10007, 3) := by decide +kernel
theorem dX2_addTimes_28 : decode cX2_addTimes 28 = .ok (.irem, 1) := by decide +kernel
theorem dX2_addTimes_29 : decode cX2_addTimes 29 = .ok (.iastore, 1) := by decide +kernel
theorem dX2_addTimes_30 : decode cX2_addTimes 30 = .ok (.iinc 3 1, 3) := by decide +kernel
theorem dX2_addTimes_33 : decode cX2_addTimes 33 = .ok (.goto (-31), 3) := by decide +kernel
theorem dX2_addTimes_36 : decode cX2_addTimes 36 = .ok (.return_, 1) := by decide +kernel
theorem dX2_addProduct_0 : decode cX2_addProduct 0 = .ok (.iconst 0, 1) := by decide +kernel
theorem dX2_addProduct_1 : decode cX2_addProduct 1 = .ok (.istore 6, 2) := by decide +kernel
theorem dX2_addProduct_3 : decode cX2_addProduct 3 = .ok (.iload 6, 2) := by decide +kernel
theorem dX2_addProduct_5 : decode cX2_addProduct 5 = .ok (.iload_n 2, 1) := by decide +kernel
theorem dX2_addProduct_6 : decode cX2_addProduct 6 = .ok (.if_icmp .gt 74, 3) := by decide +kernel
theorem dX2_addProduct_9 : decode cX2_addProduct 9 = .ok (.aload_n 1, 1) := by decide +kernel
theorem dX2_addProduct_10 : decode cX2_addProduct 10 = .ok (.iload 6, 2) := by decide +kernel
theorem dX2_addProduct_12 : decode cX2_addProduct 12 = .ok (.iaload, 1) := by decide +kernel
theorem dX2_addProduct_13 : decode cX2_addProduct 13 = .ok (.iload 5, 2) := by decide +kernel
theorem dX2_addProduct_15 : decode cX2_addProduct 15 = .ok (.imul, 1) := by decide +kernel
theorem dX2_addProduct_16 : decode cX2_addProduct 16 = .ok (.sipush 10007, 3) := by decide +kernel
theorem dX2_addProduct_19 : decode cX2_addProduct 19 = .ok (.irem, 1) := by decide +kernel
theorem dX2_addProduct_20 : decode cX2_addProduct 20 = .ok (.istore 7, 2) := by decide +kernel
theorem dX2_addProduct_22 : decode cX2_addProduct 22 = .ok (.iconst 0, 1) := by decide +kernel
theorem dX2_addProduct_23 : decode cX2_addProduct 23 = .ok (.istore 8, 2) := by decide +kernel
theorem dX2_addProduct_25 : decode cX2_addProduct 25 = .ok (.iload 8, 2) := by decide +kernel
theorem dX2_addProduct_27 : decode cX2_addProduct 27 = .ok (.iload 4, 2) := by decide +kernel
theorem dX2_addProduct_29 : decode cX2_addProduct 29 = .ok (.if_icmp .gt 45, 3) := by decide +kernel
theorem dX2_addProduct_32 : decode cX2_addProduct 32 = .ok (.iload 6, 2) := by decide +kernel
theorem dX2_addProduct_34 : decode cX2_addProduct 34 = .ok (.iload 8, 2) := by decide +kernel
theorem dX2_addProduct_36 : decode cX2_addProduct 36 = .ok (.iadd, 1) := by decide +kernel
theorem dX2_addProduct_37 : decode cX2_addProduct 37 = .ok (.aload_n 0, 1) := by decide +kernel
theorem dX2_addProduct_38 : decode cX2_addProduct 38 = .ok (.arraylength, 1) := by decide +kernel
theorem dX2_addProduct_39 : decode cX2_addProduct 39 = .ok (.if_icmp .ge 35, 3) := by decide +kernel
theorem dX2_addProduct_42 : decode cX2_addProduct 42 = .ok (.aload_n 0, 1) := by decide +kernel
theorem dX2_addProduct_43 : decode cX2_addProduct 43 = .ok (.iload 6, 2) := by decide +kernel
theorem dX2_addProduct_45 : decode cX2_addProduct 45 = .ok (.iload 8, 2) := by decide +kernel
theorem dX2_addProduct_47 : decode cX2_addProduct 47 = .ok (.iadd, 1) := by decide +kernel
theorem dX2_addProduct_48 : decode cX2_addProduct 48 = .ok (.aload_n 0, 1) := by decide +kernel
theorem dX2_addProduct_49 : decode cX2_addProduct 49 = .ok (.iload 6, 2) := by decide +kernel
theorem dX2_addProduct_51 : decode cX2_addProduct 51 = .ok (.iload 8, 2) := by decide +kernel
theorem dX2_addProduct_53 : decode cX2_addProduct 53 = .ok (.iadd, 1) := by decide +kernel
theorem dX2_addProduct_54 : decode cX2_addProduct 54 = .ok (.iaload, 1) := by decide +kernel
theorem dX2_addProduct_55 : decode cX2_addProduct 55 = .ok (.iload 7, 2) := by decide +kernel
theorem dX2_addProduct_57 : decode cX2_addProduct 57 = .ok (.aload_n 3, 1) := by decide +kernel
theorem dX2_addProduct_58 : decode cX2_addProduct 58 = .ok (.iload 8, 2) := by decide +kernel
theorem dX2_addProduct_60 : decode cX2_addProduct 60 = .ok (.iaload, 1) := by decide +kernel
theorem dX2_addProduct_61 : decode cX2_addProduct 61 = .ok (.imul, 1) := by decide +kernel
theorem dX2_addProduct_62 : decode cX2_addProduct 62 = .ok (.iadd, 1) := by decide +kernel
theorem dX2_addProduct_63 : decode cX2_addProduct 63 = .ok (.sipush 10007, 3) := by decide +kernel
theorem dX2_addProduct_66 : decode cX2_addProduct 66 = .ok (.irem, 1) := by decide +kernel
theorem dX2_addProduct_67 : decode cX2_addProduct 67 = .ok (.iastore, 1) := by decide +kernel
theorem dX2_addProduct_68 : decode cX2_addProduct 68 = .ok (.iinc 8 1, 3) := by decide +kernel
theorem dX2_addProduct_71 : decode cX2_addProduct 71 = .ok (.goto (-46), 3) := by decide +kernel
theorem dX2_addProduct_74 : decode cX2_addProduct 74 = .ok (.iinc 6 1, 3) := by decide +kernel
theorem dX2_addProduct_77 : decode cX2_addProduct 77 = .ok (.goto (-74), 3) := by decide +kernel
theorem dX2_addProduct_80 : decode cX2_addProduct 80 = .ok (.return_, 1) := by decide +kernel
theorem dX2_timesLine_0 : decode cX2_timesLine 0 = .ok (.iload_n 1, 1) := by decide +kernel
theorem dX2_timesLine_1 : decode cX2_timesLine 1 = .ok (.iconst 1, 1) := by decide +kernel
theorem dX2_timesLine_2 : decode cX2_timesLine 2 = .ok (.iadd, 1) := by decide +kernel
theorem dX2_timesLine_3 : decode cX2_timesLine 3 = .ok (.istore 4, 2) := by decide +kernel
theorem dX2_timesLine_5 : decode cX2_timesLine 5 = .ok (.iload 4, 2) := by decide +kernel
theorem dX2_timesLine_7 : decode cX2_timesLine 7 = .ok (.ifCond .le 32, 3) := by decide +kernel
theorem dX2_timesLine_10 : decode cX2_timesLine 10 = .ok (.aload_n 0, 1) := by decide +kernel
theorem dX2_timesLine_11 : decode cX2_timesLine 11 = .ok (.iload 4, 2) := by decide +kernel
theorem dX2_timesLine_13 : decode cX2_timesLine 13 = .ok (.iload_n 2, 1) := by decide +kernel
theorem dX2_timesLine_14 : decode cX2_timesLine 14 = .ok (.aload_n 0, 1) := by decide +kernel
theorem dX2_timesLine_15 : decode cX2_timesLine 15 = .ok (.iload 4, 2) := by decide +kernel
theorem dX2_timesLine_17 : decode cX2_timesLine 17 = .ok (.iaload, 1) := by decide +kernel
theorem dX2_timesLine_18 : decode cX2_timesLine 18 = .ok (.imul, 1) := by decide +kernel
theorem dX2_timesLine_19 : decode cX2_timesLine 19 = .ok (.iload_n 3, 1) := by decide +kernel
theorem dX2_timesLine_20 : decode cX2_timesLine 20 = .ok (.aload_n 0, 1) := by decide +kernel
theorem dX2_timesLine_21 : decode cX2_timesLine 21 = .ok (.iload 4, 2) := by decide +kernel
theorem dX2_timesLine_23 : decode cX2_timesLine 23 = .ok (.iconst 1, 1) := by decide +kernel
theorem dX2_timesLine_24 : decode cX2_timesLine 24 = .ok (.isub, 1) := by decide +kernel
theorem dX2_timesLine_25 : decode cX2_timesLine 25 = .ok (.iaload, 1) := by decide +kernel
theorem dX2_timesLine_26 : decode cX2_timesLine 26 = .ok (.imul, 1) := by decide +kernel
theorem dX2_timesLine_27 : decode cX2_timesLine 27 = .ok (.iadd, 1) := by decide +kernel
theorem dX2_timesLine_28 : decode cX2_timesLine 28 = .ok (.sipush 10007, 3) := by decide +kernel
theorem dX2_timesLine_31 : decode cX2_timesLine 31 = .ok (.irem, 1) := by decide +kernel
theorem dX2_timesLine_32 : decode cX2_timesLine 32 = .ok (.iastore, 1) := by decide +kernel
theorem dX2_timesLine_33 : decode cX2_timesLine 33 = .ok (.iinc 4 (-1), 3) := by decide +kernel
theorem dX2_timesLine_36 : decode cX2_timesLine 36 = .ok (.goto (-31), 3) := by decide +kernel
theorem dX2_timesLine_39 : decode cX2_timesLine 39 = .ok (.aload_n 0, 1) := by decide +kernel
theorem dX2_timesLine_40 : decode cX2_timesLine 40 = .ok (.iconst 0, 1) := by decide +kernel
theorem dX2_timesLine_41 : decode cX2_timesLine 41 = .ok (.iload_n 2, 1) := by decide +kernel
theorem dX2_timesLine_42 : decode cX2_timesLine 42 = .ok (.aload_n 0, 1) := by decide +kernel
theorem dX2_timesLine_43 : decode cX2_timesLine 43 = .ok (.iconst 0, 1) := by decide +kernel
theorem dX2_timesLine_44 : decode cX2_timesLine 44 = .ok (.iaload, 1) := by decide +kernel
theorem dX2_timesLine_45 : decode cX2_timesLine 45 = .ok (.imul, 1) := by decide +kernel
theorem dX2_timesLine_46 : decode cX2_timesLine 46 = .ok (.sipush 10007, 3) := by decide +kernel
theorem dX2_timesLine_49 : decode cX2_timesLine 49 = .ok (.irem, 1) := by decide +kernel
theorem dX2_timesLine_50 : decode cX2_timesLine 50 = .ok (.iastore, 1) := by decide +kernel
theorem dX2_timesLine_51 : decode cX2_timesLine 51 = .ok (.return_, 1) := by decide +kernel
theorem dX2_addPower_0 : decode cX2_addPower 0 = .ok (.iload_n 3, 1) := by decide +kernel
theorem dX2_addPower_1 : decode cX2_addPower 1 = .ok (.istore 4, 2) := by decide +kernel
theorem dX2_addPower_3 : decode cX2_addPower 3 = .ok (.iconst 0, 1) := by decide +kernel
theorem dX2_addPower_4 : decode cX2_addPower 4 = .ok (.istore 5, 2) := by decide +kernel
theorem dX2_addPower_6 : decode cX2_addPower 6 = .ok (.iload 5, 2) := by decide +kernel
theorem dX2_addPower_8 : decode cX2_addPower 8 = .ok (.iload_n 1, 1) := by decide +kernel
theorem dX2_addPower_9 : decode cX2_addPower 9 = .ok (.if_icmp .gt 41, 3) := by decide +kernel
theorem dX2_addPower_12 : decode cX2_addPower 12 = .ok (.aload_n 0, 1) := by decide +kernel
theorem dX2_addPower_13 : decode cX2_addPower 13 = .ok (.iload 5, 2) := by decide +kernel
theorem dX2_addPower_15 : decode cX2_addPower 15 = .ok (.aload_n 0, 1) := by decide +kernel
theorem dX2_addPower_16 : decode cX2_addPower 16 = .ok (.iload 5, 2) := by decide +kernel
theorem dX2_addPower_18 : decode cX2_addPower 18 = .ok (.iaload, 1) := by decide +kernel
theorem dX2_addPower_19 : decode cX2_addPower 19 = .ok (.iload 4, 2) := by decide +kernel
theorem dX2_addPower_21 : decode cX2_addPower 21 = .ok (.iload_n 1, 1) := by decide +kernel
theorem dX2_addPower_22 : decode cX2_addPower 22 = .ok (.iload 5, 2) := by decide +kernel
theorem dX2_addPower_24 : decode cX2_addPower 24 = .ok (.invokestatic 9, 3) := by decide +kernel
theorem dX2_addPower_27 : decode cX2_addPower 27 = .ok (.imul, 1) := by decide +kernel
theorem dX2_addPower_28 : decode cX2_addPower 28 = .ok (.iadd, 1) := by decide +kernel
theorem dX2_addPower_29 : decode cX2_addPower 29 = .ok (.sipush 10007, 3) := by decide +kernel
theorem dX2_addPower_32 : decode cX2_addPower 32 = .ok (.irem, 1) := by decide +kernel
theorem dX2_addPower_33 : decode cX2_addPower 33 = .ok (.iastore, 1) := by decide +kernel
theorem dX2_addPower_34 : decode cX2_addPower 34 = .ok (.iload 4, 2) := by decide +kernel
theorem dX2_addPower_36 : decode cX2_addPower 36 = .ok (.iload_n 2, 1) := by decide +kernel
theorem dX2_addPower_37 : decode cX2_addPower 37 = .ok (.imul, 1) := by decide +kernel
theorem dX2_addPower_38 : decode cX2_addPower 38 = .ok (.sipush 10007, 3) := by decide +kernel
theorem dX2_addPower_41 : decode cX2_addPower 41 = .ok (.irem, 1) := by decide +kernel
theorem dX2_addPower_42 : decode cX2_addPower 42 = .ok (.istore 4, 2) := by decide +kernel
theorem dX2_addPower_44 : decode cX2_addPower 44 = .ok (.iinc 5 1, 3) := by decide +kernel
theorem dX2_addPower_47 : decode cX2_addPower 47 = .ok (.goto (-41), 3) := by decide +kernel
theorem dX2_addPower_50 : decode cX2_addPower 50 = .ok (.return_, 1) := by decide +kernel
theorem dX2_divideByChoices_0 : decode cX2_divideByChoices 0 = .ok (.iconst 0, 1) := by decide +kernel
theorem dX2_divideByChoices_1 : decode cX2_divideByChoices 1 = .ok (.istore_n 2, 1) := by decide +kernel
theorem dX2_divideByChoices_2 : decode cX2_divideByChoices 2 = .ok (.iload_n 2, 1) := by decide +kernel
theorem dX2_divideByChoices_3 : decode cX2_divideByChoices 3 = .ok (.iload_n 1, 1) := by decide +kernel
theorem dX2_divideByChoices_4 : decode cX2_divideByChoices 4 = .ok (.if_icmp .gt 28, 3) := by decide +kernel
theorem dX2_divideByChoices_7 : decode cX2_divideByChoices 7 = .ok (.aload_n 0, 1) := by decide +kernel
theorem dX2_divideByChoices_8 : decode cX2_divideByChoices 8 = .ok (.iload_n 2, 1) := by decide +kernel
theorem dX2_divideByChoices_9 : decode cX2_divideByChoices 9 = .ok (.aload_n 0, 1) := by decide +kernel
theorem dX2_divideByChoices_10 : decode cX2_divideByChoices 10 = .ok (.iload_n 2, 1) := by decide +kernel
theorem dX2_divideByChoices_11 : decode cX2_divideByChoices 11 = .ok (.iaload, 1) := by decide +kernel
theorem dX2_divideByChoices_12 : decode cX2_divideByChoices 12 = .ok (.iload_n 1, 1) := by decide +kernel
theorem dX2_divideByChoices_13 : decode cX2_divideByChoices 13 = .ok (.iload_n 2, 1) := by decide +kernel
theorem dX2_divideByChoices_14 : decode cX2_divideByChoices 14 = .ok (.invokestatic 9, 3) := by decide +kernel
theorem dX2_divideByChoices_17 : decode cX2_divideByChoices 17 = .ok (.invokestatic 15, 3) := by decide +kernel
theorem dX2_divideByChoices_20 : decode cX2_divideByChoices 20 = .ok (.imul, 1) := by decide +kernel
theorem dX2_divideByChoices_21 : decode cX2_divideByChoices 21 = .ok (.sipush 10007, 3) := by decide +kernel
theorem dX2_divideByChoices_24 : decode cX2_divideByChoices 24 = .ok (.irem, 1) := by decide +kernel
theorem dX2_divideByChoices_25 : decode cX2_divideByChoices 25 = .ok (.iastore, 1) := by decide +kernel
theorem dX2_divideByChoices_26 : decode cX2_divideByChoices 26 = .ok (.iinc 2 1, 3) := by decide +kernel
theorem dX2_divideByChoices_29 : decode cX2_divideByChoices 29 = .ok (.goto (-27), 3) := by decide +kernel
theorem dX2_divideByChoices_32 : decode cX2_divideByChoices 32 = .ok (.return_, 1) := by decide +kernel
theorem dX2_changed_0 : decode cX2_changed 0 = .ok (.iconst 0, 1) := by decide +kernel
theorem dX2_changed_1 : decode cX2_changed 1 = .ok (.istore 5, 2) := by decide +kernel
theorem dX2_changed_3 : decode cX2_changed 3 = .ok (.iload 5, 2) := by decide +kernel
theorem dX2_changed_5 : decode cX2_changed 5 = .ok (.aload 4, 2) := by decide +kernel
theorem dX2_changed_7 : decode cX2_changed 7 = .ok (.arraylength, 1) := by decide +kernel
theorem dX2_changed_8 : decode cX2_changed 8 = .ok (.if_icmp .ge 28, 3) := by decide +kernel
theorem dX2_changed_11 : decode cX2_changed 11 = .ok (.aload 4, 2) := by decide +kernel
theorem dX2_changed_13 : decode cX2_changed 13 = .ok (.iload 5, 2) := by decide +kernel
theorem dX2_changed_15 : decode cX2_changed 15 = .ok (.iload 5, 2) := by decide +kernel
theorem dX2_changed_17 : decode cX2_changed 17 = .ok (.iload_n 1, 1) := by decide +kernel
theorem dX2_changed_18 : decode cX2_changed 18 = .ok (.if_icmp .gt 10, 3) := by decide +kernel
theorem dX2_changed_21 : decode cX2_changed 21 = .ok (.aload_n 0, 1) := by decide +kernel
theorem dX2_changed_22 : decode cX2_changed 22 = .ok (.iload 5, 2) := by decide +kernel
theorem dX2_changed_24 : decode cX2_changed 24 = .ok (.iaload, 1) := by decide +kernel
theorem dX2_changed_25 : decode cX2_changed 25 = .ok (.goto 4, 3) := by decide +kernel
theorem dX2_changed_28 : decode cX2_changed 28 = .ok (.iconst 0, 1) := by decide +kernel
theorem dX2_changed_29 : decode cX2_changed 29 = .ok (.iastore, 1) := by decide +kernel
theorem dX2_changed_30 : decode cX2_changed 30 = .ok (.iinc 5 1, 3) := by decide +kernel
theorem dX2_changed_33 : decode cX2_changed 33 = .ok (.goto (-30), 3) := by decide +kernel
theorem dX2_changed_36 : decode cX2_changed 36 = .ok (.iload_n 1, 1) := by decide +kernel
theorem dX2_changed_37 : decode cX2_changed 37 = .ok (.istore 5, 2) := by decide +kernel
theorem dX2_changed_39 : decode cX2_changed 39 = .ok (.iconst 0, 1) := by decide +kernel
theorem dX2_changed_40 : decode cX2_changed 40 = .ok (.istore 6, 2) := by decide +kernel
theorem dX2_changed_42 : decode cX2_changed 42 = .ok (.iload 6, 2) := by decide +kernel
theorem dX2_changed_44 : decode cX2_changed 44 = .ok (.iload_n 2, 1) := by decide +kernel
theorem dX2_changed_45 : decode cX2_changed 45 = .ok (.if_icmp .ge 19, 3) := by decide +kernel
theorem dX2_changed_48 : decode cX2_changed 48 = .ok (.aload 4, 2) := by decide +kernel
theorem dX2_changed_50 : decode cX2_changed 50 = .ok (.iload 5, 2) := by decide +kernel
theorem dX2_changed_52 : decode cX2_changed 52 = .ok (.invokestatic 19, 3) := by decide +kernel
theorem dX2_changed_55 : decode cX2_changed 55 = .ok (.iinc 5 (-1), 3) := by decide +kernel
theorem dX2_changed_58 : decode cX2_changed 58 = .ok (.iinc 6 1, 3) := by decide +kernel
theorem dX2_changed_61 : decode cX2_changed 61 = .ok (.goto (-19), 3) := by decide +kernel
theorem dX2_changed_64 : decode cX2_changed 64 = .ok (.iconst 0, 1) := by decide +kernel
theorem dX2_changed_65 : decode cX2_changed 65 = .ok (.istore 6, 2) := by decide +kernel
theorem dX2_changed_67 : decode cX2_changed 67 = .ok (.iload 6, 2) := by decide +kernel
theorem dX2_changed_69 : decode cX2_changed 69 = .ok (.iload_n 3, 1) := by decide +kernel
theorem dX2_changed_70 : decode cX2_changed 70 = .ok (.if_icmp .ge 19, 3) := by decide +kernel
theorem dX2_changed_73 : decode cX2_changed 73 = .ok (.aload 4, 2) := by decide +kernel
theorem dX2_changed_75 : decode cX2_changed 75 = .ok (.iload 5, 2) := by decide +kernel
theorem dX2_changed_77 : decode cX2_changed 77 = .ok (.invokestatic 25, 3) := by decide +kernel
theorem dX2_changed_80 : decode cX2_changed 80 = .ok (.iinc 5 (-1), 3) := by decide +kernel
theorem dX2_changed_83 : decode cX2_changed 83 = .ok (.iinc 6 1, 3) := by decide +kernel
theorem dX2_changed_86 : decode cX2_changed 86 = .ok (.goto (-19), 3) := by decide +kernel
theorem dX2_changed_89 : decode cX2_changed 89 = .ok (.return_, 1) := by decide +kernel
theorem dX2_changeByX_0 : decode cX2_changeByX 0 = .ok (.iconst 0, 1) := by decide +kernel
theorem dX2_changeByX_1 : decode cX2_changeByX 1 = .ok (.istore_n 2, 1) := by decide +kernel
theorem dX2_changeByX_2 : decode cX2_changeByX 2 = .ok (.iload_n 2, 1) := by decide +kernel
theorem dX2_changeByX_3 : decode cX2_changeByX 3 = .ok (.iload_n 1, 1) := by decide +kernel
theorem dX2_changeByX_4 : decode cX2_changeByX 4 = .ok (.if_icmp .gt 23, 3) := by decide +kernel
theorem dX2_changeByX_7 : decode cX2_changeByX 7 = .ok (.aload_n 0, 1) := by decide +kernel
theorem dX2_changeByX_8 : decode cX2_changeByX 8 = .ok (.iload_n 2, 1) := by decide +kernel
theorem dX2_changeByX_9 : decode cX2_changeByX 9 = .ok (.aload_n 0, 1) := by decide +kernel
theorem dX2_changeByX_10 : decode cX2_changeByX 10 = .ok (.iload_n 2, 1) := by decide +kernel
theorem dX2_changeByX_11 : decode cX2_changeByX 11 = .ok (.iaload, 1) := by decide +kernel
theorem dX2_changeByX_12 : decode cX2_changeByX 12 = .ok (.iload_n 1, 1) := by decide +kernel
theorem dX2_changeByX_13 : decode cX2_changeByX 13 = .ok (.iload_n 2, 1) := by decide +kernel
theorem dX2_changeByX_14 : decode cX2_changeByX 14 = .ok (.isub, 1) := by decide +kernel
theorem dX2_changeByX_15 : decode cX2_changeByX 15 = .ok (.imul, 1) := by decide +kernel
theorem dX2_changeByX_16 : decode cX2_changeByX 16 = .ok (.sipush 10007, 3) := by decide +kernel
theorem dX2_changeByX_19 : decode cX2_changeByX 19 = .ok (.irem, 1) := by decide +kernel
theorem dX2_changeByX_20 : decode cX2_changeByX 20 = .ok (.iastore, 1) := by decide +kernel
theorem dX2_changeByX_21 : decode cX2_changeByX 21 = .ok (.iinc 2 1, 3) := by decide +kernel
theorem dX2_changeByX_24 : decode cX2_changeByX 24 = .ok (.goto (-22), 3) := by decide +kernel
theorem dX2_changeByX_27 : decode cX2_changeByX 27 = .ok (.return_, 1) := by decide +kernel
theorem dX2_changeByY_0 : decode cX2_changeByY 0 = .ok (.iconst 1, 1) := by decide +kernel
theorem dX2_changeByY_1 : decode cX2_changeByY 1 = .ok (.istore_n 2, 1) := by decide +kernel
theorem dX2_changeByY_2 : decode cX2_changeByY 2 = .ok (.iload_n 2, 1) := by decide +kernel
theorem dX2_changeByY_3 : decode cX2_changeByY 3 = .ok (.iload_n 1, 1) := by decide +kernel
theorem dX2_changeByY_4 : decode cX2_changeByY 4 = .ok (.if_icmp .gt 23, 3) := by decide +kernel
theorem dX2_changeByY_7 : decode cX2_changeByY 7 = .ok (.aload_n 0, 1) := by decide +kernel
theorem dX2_changeByY_8 : decode cX2_changeByY 8 = .ok (.iload_n 2, 1) := by decide +kernel
theorem dX2_changeByY_9 : decode cX2_changeByY 9 = .ok (.iconst 1, 1) := by decide +kernel
theorem dX2_changeByY_10 : decode cX2_changeByY 10 = .ok (.isub, 1) := by decide +kernel
theorem dX2_changeByY_11 : decode cX2_changeByY 11 = .ok (.aload_n 0, 1) := by decide +kernel
theorem dX2_changeByY_12 : decode cX2_changeByY 12 = .ok (.iload_n 2, 1) := by decide +kernel
theorem dX2_changeByY_13 : decode cX2_changeByY 13 = .ok (.iaload, 1) := by decide +kernel
theorem dX2_changeByY_14 : decode cX2_changeByY 14 = .ok (.iload_n 2, 1) := by decide +kernel
theorem dX2_changeByY_15 : decode cX2_changeByY 15 = .ok (.imul, 1) := by decide +kernel
theorem dX2_changeByY_16 : decode cX2_changeByY 16 = .ok (.sipush 10007, 3) := by decide +kernel
theorem dX2_changeByY_19 : decode cX2_changeByY 19 = .ok (.irem, 1) := by decide +kernel
theorem dX2_changeByY_20 : decode cX2_changeByY 20 = .ok (.iastore, 1) := by decide +kernel
theorem dX2_changeByY_21 : decode cX2_changeByY 21 = .ok (.iinc 2 1, 3) := by decide +kernel
theorem dX2_changeByY_24 : decode cX2_changeByY 24 = .ok (.goto (-22), 3) := by decide +kernel
theorem dX2_changeByY_27 : decode cX2_changeByY 27 = .ok (.iload_n 1, 1) := by decide +kernel
theorem dX2_changeByY_28 : decode cX2_changeByY 28 = .ok (.ifCond .lt 7, 3) := by decide +kernel
theorem dX2_changeByY_31 : decode cX2_changeByY 31 = .ok (.aload_n 0, 1) := by decide +kernel
theorem dX2_changeByY_32 : decode cX2_changeByY 32 = .ok (.iload_n 1, 1) := by decide +kernel
theorem dX2_changeByY_33 : decode cX2_changeByY 33 = .ok (.iconst 0, 1) := by decide +kernel
theorem dX2_changeByY_34 : decode cX2_changeByY 34 = .ok (.iastore, 1) := by decide +kernel
theorem dX2_changeByY_35 : decode cX2_changeByY 35 = .ok (.return_, 1) := by decide +kernel
theorem dX2_valueAt_0 : decode cX2_valueAt 0 = .ok (.aload_n 0, 1) := by decide +kernel
theorem dX2_valueAt_1 : decode cX2_valueAt 1 = .ok (.iconst 0, 1) := by decide +kernel
theorem dX2_valueAt_2 : decode cX2_valueAt 2 = .ok (.iaload, 1) := by decide +kernel
theorem dX2_valueAt_3 : decode cX2_valueAt 3 = .ok (.istore 4, 2) := by decide +kernel
theorem dX2_valueAt_5 : decode cX2_valueAt 5 = .ok (.iconst 1, 1) := by decide +kernel
theorem dX2_valueAt_6 : decode cX2_valueAt 6 = .ok (.istore 5, 2) := by decide +kernel
theorem dX2_valueAt_8 : decode cX2_valueAt 8 = .ok (.iconst 1, 1) := by decide +kernel
theorem dX2_valueAt_9 : decode cX2_valueAt 9 = .ok (.istore 6, 2) := by decide +kernel
theorem dX2_valueAt_11 : decode cX2_valueAt 11 = .ok (.iload 6, 2) := by decide +kernel
theorem dX2_valueAt_13 : decode cX2_valueAt 13 = .ok (.iload_n 1, 1) := by decide +kernel
theorem dX2_valueAt_14 : decode cX2_valueAt 14 = .ok (.if_icmp .gt 37, 3) := by decide +kernel
theorem dX2_valueAt_17 : decode cX2_valueAt 17 = .ok (.iload 5, 2) := by decide +kernel
theorem dX2_valueAt_19 : decode cX2_valueAt 19 = .ok (.iload_n 3, 1) := by decide +kernel
theorem dX2_valueAt_20 : decode cX2_valueAt 20 = .ok (.imul, 1) := by decide +kernel
theorem dX2_valueAt_21 : decode cX2_valueAt 21 = .ok (.sipush 10007, 3) := by decide +kernel
theorem dX2_valueAt_24 : decode cX2_valueAt 24 = .ok (.irem, 1) := by decide +kernel
theorem dX2_valueAt_25 : decode cX2_valueAt 25 = .ok (.istore 5, 2) := by decide +kernel
theorem dX2_valueAt_27 : decode cX2_valueAt 27 = .ok (.iload 4, 2) := by decide +kernel
theorem dX2_valueAt_29 : decode cX2_valueAt 29 = .ok (.iload_n 2, 1) := by decide +kernel
theorem dX2_valueAt_30 : decode cX2_valueAt 30 = .ok (.imul, 1) := by decide +kernel
theorem dX2_valueAt_31 : decode cX2_valueAt 31 = .ok (.aload_n 0, 1) := by decide +kernel
theorem dX2_valueAt_32 : decode cX2_valueAt 32 = .ok (.iload 6, 2) := by decide +kernel
theorem dX2_valueAt_34 : decode cX2_valueAt 34 = .ok (.iaload, 1) := by decide +kernel
theorem dX2_valueAt_35 : decode cX2_valueAt 35 = .ok (.iload 5, 2) := by decide +kernel
theorem dX2_valueAt_37 : decode cX2_valueAt 37 = .ok (.imul, 1) := by decide +kernel
theorem dX2_valueAt_38 : decode cX2_valueAt 38 = .ok (.iadd, 1) := by decide +kernel
theorem dX2_valueAt_39 : decode cX2_valueAt 39 = .ok (.sipush 10007, 3) := by decide +kernel
theorem dX2_valueAt_42 : decode cX2_valueAt 42 = .ok (.irem, 1) := by decide +kernel
theorem dX2_valueAt_43 : decode cX2_valueAt 43 = .ok (.istore 4, 2) := by decide +kernel
theorem dX2_valueAt_45 : decode cX2_valueAt 45 = .ok (.iinc 6 1, 3) := by decide +kernel
theorem dX2_valueAt_48 : decode cX2_valueAt 48 = .ok (.goto (-37), 3) := by decide +kernel
theorem dX2_valueAt_51 : decode cX2_valueAt 51 = .ok (.iload 4, 2) := by decide +kernel
theorem dX2_valueAt_53 : decode cX2_valueAt 53 = .ok (.ireturn, 1) := by decide +kernel
theorem dX2_ratio_0 : decode cX2_ratio 0 = .ok (.iconst 1, 1) := by decide +kernel
theorem dX2_ratio_1 : decode cX2_ratio 1 = .ok (.istore_n 3, 1) := by decide +kernel
theorem dX2_ratio_2 : decode cX2_ratio 2 = .ok (.iconst 0, 1) := by decide +kernel
theorem dX2_ratio_3 : decode cX2_ratio 3 = .ok (.istore 4, 2) := by decide +kernel
theorem dX2_ratio_5 : decode cX2_ratio 5 = .ok (.iload 4, 2) := by decide +kernel
theorem dX2_ratio_7 : decode cX2_ratio 7 = .ok (.iload_n 2, 1) := by decide +kernel
theorem dX2_ratio_8 : decode cX2_ratio 8 = .ok (.if_icmp .gt 36, 3) := by decide +kernel
theorem dX2_ratio_11 : decode cX2_ratio 11 = .ok (.aload_n 0, 1) := by decide +kernel
theorem dX2_ratio_12 : decode cX2_ratio 12 = .ok (.iload 4, 2) := by decide +kernel
theorem dX2_ratio_14 : decode cX2_ratio 14 = .ok (.iaload, 1) := by decide +kernel
theorem dX2_ratio_15 : decode cX2_ratio 15 = .ok (.ifCond .eq 23, 3) := by decide +kernel
theorem dX2_ratio_18 : decode cX2_ratio 18 = .ok (.aload_n 1, 1) := by decide +kernel
theorem dX2_ratio_19 : decode cX2_ratio 19 = .ok (.iload 4, 2) := by decide +kernel
theorem dX2_ratio_21 : decode cX2_ratio 21 = .ok (.iaload, 1) := by decide +kernel
theorem dX2_ratio_22 : decode cX2_ratio 22 = .ok (.aload_n 0, 1) := by decide +kernel
theorem dX2_ratio_23 : decode cX2_ratio 23 = .ok (.iload 4, 2) := by decide +kernel
theorem dX2_ratio_25 : decode cX2_ratio 25 = .ok (.iaload, 1) := by decide +kernel
theorem dX2_ratio_26 : decode cX2_ratio 26 = .ok (.invokestatic 15, 3) := by decide +kernel
theorem dX2_ratio_29 : decode cX2_ratio 29 = .ok (.imul, 1) := by decide +kernel
theorem dX2_ratio_30 : decode cX2_ratio 30 = .ok (.sipush 10007, 3) := by decide +kernel
theorem dX2_ratio_33 : decode cX2_ratio 33 = .ok (.irem, 1) := by decide +kernel
theorem dX2_ratio_34 : decode cX2_ratio 34 = .ok (.istore_n 3, 1) := by decide +kernel
theorem dX2_ratio_35 : decode cX2_ratio 35 = .ok (.goto 9, 3) := by decide +kernel
theorem dX2_ratio_38 : decode cX2_ratio 38 = .ok (.iinc 4 1, 3) := by decide +kernel
theorem dX2_ratio_41 : decode cX2_ratio 41 = .ok (.goto (-36), 3) := by decide +kernel
theorem dX2_ratio_44 : decode cX2_ratio 44 = .ok (.iconst 0, 1) := by decide +kernel
theorem dX2_ratio_45 : decode cX2_ratio 45 = .ok (.istore 4, 2) := by decide +kernel
theorem dX2_ratio_47 : decode cX2_ratio 47 = .ok (.iload 4, 2) := by decide +kernel
theorem dX2_ratio_49 : decode cX2_ratio 49 = .ok (.iload_n 2, 1) := by decide +kernel
theorem dX2_ratio_50 : decode cX2_ratio 50 = .ok (.if_icmp .gt 28, 3) := by decide +kernel
theorem dX2_ratio_53 : decode cX2_ratio 53 = .ok (.aload_n 0, 1) := by decide +kernel
theorem dX2_ratio_54 : decode cX2_ratio 54 = .ok (.iload 4, 2) := by decide +kernel
theorem dX2_ratio_56 : decode cX2_ratio 56 = .ok (.iaload, 1) := by decide +kernel
theorem dX2_ratio_57 : decode cX2_ratio 57 = .ok (.iload_n 3, 1) := by decide +kernel
theorem dX2_ratio_58 : decode cX2_ratio 58 = .ok (.imul, 1) := by decide +kernel
theorem dX2_ratio_59 : decode cX2_ratio 59 = .ok (.sipush 10007, 3) := by decide +kernel
theorem dX2_ratio_62 : decode cX2_ratio 62 = .ok (.irem, 1) := by decide +kernel
theorem dX2_ratio_63 : decode cX2_ratio 63 = .ok (.aload_n 1, 1) := by decide +kernel
theorem dX2_ratio_64 : decode cX2_ratio 64 = .ok (.iload 4, 2) := by decide +kernel
theorem dX2_ratio_66 : decode cX2_ratio 66 = .ok (.iaload, 1) := by decide +kernel
theorem dX2_ratio_67 : decode cX2_ratio 67 = .ok (.if_icmp .eq 5, 3) := by decide +kernel
theorem dX2_ratio_70 : decode cX2_ratio 70 = .ok (.iconst 0, 1) := by decide +kernel
theorem dX2_ratio_71 : decode cX2_ratio 71 = .ok (.ireturn, 1) := by decide +kernel
theorem dX2_ratio_72 : decode cX2_ratio 72 = .ok (.iinc 4 1, 3) := by decide +kernel
theorem dX2_ratio_75 : decode cX2_ratio 75 = .ok (.goto (-28), 3) := by decide +kernel
theorem dX2_ratio_78 : decode cX2_ratio 78 = .ok (.iload_n 3, 1) := by decide +kernel
theorem dX2_ratio_79 : decode cX2_ratio 79 = .ok (.ireturn, 1) := by decide +kernel
theorem dX2_valueAtPlace_0 : decode cX2_valueAtPlace 0 = .ok (.iload_n 2, 1) := by decide +kernel
theorem dX2_valueAtPlace_1 : decode cX2_valueAtPlace 1 = .ok (.sipush 10007, 3) := by decide +kernel
theorem dX2_valueAtPlace_4 : decode cX2_valueAtPlace 4 = .ok (.if_icmp .ne 7, 3) := by decide +kernel
theorem dX2_valueAtPlace_7 : decode cX2_valueAtPlace 7 = .ok (.aload_n 0, 1) := by decide +kernel
theorem dX2_valueAtPlace_8 : decode cX2_valueAtPlace 8 = .ok (.iload_n 1, 1) := by decide +kernel
theorem dX2_valueAtPlace_9 : decode cX2_valueAtPlace 9 = .ok (.iaload, 1) := by decide +kernel
theorem dX2_valueAtPlace_10 : decode cX2_valueAtPlace 10 = .ok (.ireturn, 1) := by decide +kernel
theorem dX2_valueAtPlace_11 : decode cX2_valueAtPlace 11 = .ok (.aload_n 0, 1) := by decide +kernel
theorem dX2_valueAtPlace_12 : decode cX2_valueAtPlace 12 = .ok (.iload_n 1, 1) := by decide +kernel
theorem dX2_valueAtPlace_13 : decode cX2_valueAtPlace 13 = .ok (.iaload, 1) := by decide +kernel
theorem dX2_valueAtPlace_14 : decode cX2_valueAtPlace 14 = .ok (.istore_n 3, 1) := by decide +kernel
theorem dX2_valueAtPlace_15 : decode cX2_valueAtPlace 15 = .ok (.iload_n 1, 1) := by decide +kernel
theorem dX2_valueAtPlace_16 : decode cX2_valueAtPlace 16 = .ok (.iconst 1, 1) := by decide +kernel
theorem dX2_valueAtPlace_17 : decode cX2_valueAtPlace 17 = .ok (.isub, 1) := by decide +kernel
theorem dX2_valueAtPlace_18 : decode cX2_valueAtPlace 18 = .ok (.istore 4, 2) := by decide +kernel
theorem dX2_valueAtPlace_20 : decode cX2_valueAtPlace 20 = .ok (.iload 4, 2) := by decide +kernel
theorem dX2_valueAtPlace_22 : decode cX2_valueAtPlace 22 = .ok (.ifCond .lt 22, 3) := by decide +kernel
theorem dX2_valueAtPlace_25 : decode cX2_valueAtPlace 25 = .ok (.iload_n 3, 1) := by decide +kernel
theorem dX2_valueAtPlace_26 : decode cX2_valueAtPlace 26 = .ok (.iload_n 2, 1) := by decide +kernel
theorem dX2_valueAtPlace_27 : decode cX2_valueAtPlace 27 = .ok (.imul, 1) := by decide +kernel
theorem dX2_valueAtPlace_28 : decode cX2_valueAtPlace 28 = .ok (.aload_n 0, 1) := by decide +kernel
theorem dX2_valueAtPlace_29 : decode cX2_valueAtPlace 29 = .ok (.iload 4, 2) := by decide +kernel
theorem dX2_valueAtPlace_31 : decode cX2_valueAtPlace 31 = .ok (.iaload, 1) := by decide +kernel
theorem dX2_valueAtPlace_32 : decode cX2_valueAtPlace 32 = .ok (.iadd, 1) := by decide +kernel
theorem dX2_valueAtPlace_33 : decode cX2_valueAtPlace 33 = .ok (.sipush 10007, 3) := by decide +kernel
theorem dX2_valueAtPlace_36 : decode cX2_valueAtPlace 36 = .ok (.irem, 1) := by decide +kernel
theorem dX2_valueAtPlace_37 : decode cX2_valueAtPlace 37 = .ok (.istore_n 3, 1) := by decide +kernel
theorem dX2_valueAtPlace_38 : decode cX2_valueAtPlace 38 = .ok (.iinc 4 (-1), 3) := by decide +kernel
theorem dX2_valueAtPlace_41 : decode cX2_valueAtPlace 41 = .ok (.goto (-21), 3) := by decide +kernel
theorem dX2_valueAtPlace_44 : decode cX2_valueAtPlace 44 = .ok (.iload_n 3, 1) := by decide +kernel
theorem dX2_valueAtPlace_45 : decode cX2_valueAtPlace 45 = .ok (.ireturn, 1) := by decide +kernel
theorem dX2_strip_0 : decode cX2_strip 0 = .ok (.iconst 0, 1) := by decide +kernel
theorem dX2_strip_1 : decode cX2_strip 1 = .ok (.istore_n 2, 1) := by decide +kernel
theorem dX2_strip_2 : decode cX2_strip 2 = .ok (.iload_n 2, 1) := by decide +kernel
theorem dX2_strip_3 : decode cX2_strip 3 = .ok (.iload_n 1, 1) := by decide +kernel
theorem dX2_strip_4 : decode cX2_strip 4 = .ok (.if_icmp .gt 15, 3) := by decide +kernel
theorem dX2_strip_7 : decode cX2_strip 7 = .ok (.aload_n 0, 1) := by decide +kernel
theorem dX2_strip_8 : decode cX2_strip 8 = .ok (.iload_n 2, 1) := by decide +kernel
theorem dX2_strip_9 : decode cX2_strip 9 = .ok (.iaload, 1) := by decide +kernel
theorem dX2_strip_10 : decode cX2_strip 10 = .ok (.ifCond .ne 9, 3) := by decide +kernel
theorem dX2_strip_13 : decode cX2_strip 13 = .ok (.iinc 2 1, 3) := by decide +kernel
theorem dX2_strip_16 : decode cX2_strip 16 = .ok (.goto (-14), 3) := by decide +kernel
theorem dX2_strip_19 : decode cX2_strip 19 = .ok (.iconst 0, 1) := by decide +kernel
theorem dX2_strip_20 : decode cX2_strip 20 = .ok (.istore_n 3, 1) := by decide +kernel
theorem dX2_strip_21 : decode cX2_strip 21 = .ok (.iload_n 3, 1) := by decide +kernel
theorem dX2_strip_22 : decode cX2_strip 22 = .ok (.aload_n 0, 1) := by decide +kernel
theorem dX2_strip_23 : decode cX2_strip 23 = .ok (.arraylength, 1) := by decide +kernel
theorem dX2_strip_24 : decode cX2_strip 24 = .ok (.if_icmp .ge 28, 3) := by decide +kernel
theorem dX2_strip_27 : decode cX2_strip 27 = .ok (.aload_n 0, 1) := by decide +kernel
theorem dX2_strip_28 : decode cX2_strip 28 = .ok (.iload_n 3, 1) := by decide +kernel
theorem dX2_strip_29 : decode cX2_strip 29 = .ok (.iload_n 3, 1) := by decide +kernel
theorem dX2_strip_30 : decode cX2_strip 30 = .ok (.iload_n 2, 1) := by decide +kernel
theorem dX2_strip_31 : decode cX2_strip 31 = .ok (.iadd, 1) := by decide +kernel
theorem dX2_strip_32 : decode cX2_strip 32 = .ok (.iload_n 1, 1) := by decide +kernel
theorem dX2_strip_33 : decode cX2_strip 33 = .ok (.if_icmp .gt 11, 3) := by decide +kernel
theorem dX2_strip_36 : decode cX2_strip 36 = .ok (.aload_n 0, 1) := by decide +kernel
theorem dX2_strip_37 : decode cX2_strip 37 = .ok (.iload_n 3, 1) := by decide +kernel
theorem dX2_strip_38 : decode cX2_strip 38 = .ok (.iload_n 2, 1) := by decide +kernel
theorem dX2_strip_39 : decode cX2_strip 39 = .ok (.iadd, 1) := by decide +kernel
theorem dX2_strip_40 : decode cX2_strip 40 = .ok (.iaload, 1) := by decide +kernel
theorem dX2_strip_41 : decode cX2_strip 41 = .ok (.goto 4, 3) := by decide +kernel
theorem dX2_strip_44 : decode cX2_strip 44 = .ok (.iconst 0, 1) := by decide +kernel
theorem dX2_strip_45 : decode cX2_strip 45 = .ok (.iastore, 1) := by decide +kernel
theorem dX2_strip_46 : decode cX2_strip 46 = .ok (.iinc 3 1, 3) := by decide +kernel
theorem dX2_strip_49 : decode cX2_strip 49 = .ok (.goto (-28), 3) := by decide +kernel
theorem dX2_strip_52 : decode cX2_strip 52 = .ok (.iload_n 1, 1) := by decide +kernel
theorem dX2_strip_53 : decode cX2_strip 53 = .ok (.iload_n 2, 1) := by decide +kernel
theorem dX2_strip_54 : decode cX2_strip 54 = .ok (.isub, 1) := by decide +kernel
theorem dX2_strip_55 : decode cX2_strip 55 = .ok (.ireturn, 1) := by decide +kernel
theorem dX2_lower_0 : decode cX2_lower 0 = .ok (.sipush 10007, 3) := by decide +kernel
theorem dX2_lower_3 : decode cX2_lower 3 = .ok (.aload_n 0, 1) := by decide +kernel
theorem dX2_lower_4 : decode cX2_lower 4 = .ok (.iconst 0, 1) := by decide +kernel
theorem dX2_lower_5 : decode cX2_lower 5 = .ok (.iaload, 1) := by decide +kernel
theorem dX2_lower_6 : decode cX2_lower 6 = .ok (.aload_n 2, 1) := by decide +kernel
theorem dX2_lower_7 : decode cX2_lower 7 = .ok (.iconst 0, 1) := by decide +kernel
theorem dX2_lower_8 : decode cX2_lower 8 = .ok (.iaload, 1) := by decide +kernel
theorem dX2_lower_9 : decode cX2_lower 9 = .ok (.invokestatic 15, 3) := by decide +kernel
theorem dX2_lower_12 : decode cX2_lower 12 = .ok (.imul, 1) := by decide +kernel
theorem dX2_lower_13 : decode cX2_lower 13 = .ok (.sipush 10007, 3) := by decide +kernel
theorem dX2_lower_16 : decode cX2_lower 16 = .ok (.irem, 1) := by decide +kernel
theorem dX2_lower_17 : decode cX2_lower 17 = .ok (.isub, 1) := by decide +kernel
theorem dX2_lower_18 : decode cX2_lower 18 = .ok (.istore 4, 2) := by decide +kernel
theorem dX2_lower_20 : decode cX2_lower 20 = .ok (.iconst 0, 1) := by decide +kernel
theorem dX2_lower_21 : decode cX2_lower 21 = .ok (.istore 5, 2) := by decide +kernel
theorem dX2_lower_23 : decode cX2_lower 23 = .ok (.iload 5, 2) := by decide +kernel
theorem dX2_lower_25 : decode cX2_lower 25 = .ok (.iload_n 3, 1) := by decide +kernel
theorem dX2_lower_26 : decode cX2_lower 26 = .ok (.if_icmp .gt 29, 3) := by decide +kernel
theorem dX2_lower_29 : decode cX2_lower 29 = .ok (.aload_n 0, 1) := by decide +kernel
theorem dX2_lower_30 : decode cX2_lower 30 = .ok (.iload 5, 2) := by decide +kernel
theorem dX2_lower_32 : decode cX2_lower 32 = .ok (.aload_n 0, 1) := by decide +kernel
theorem dX2_lower_33 : decode cX2_lower 33 = .ok (.iload 5, 2) := by decide +kernel
theorem dX2_lower_35 : decode cX2_lower 35 = .ok (.iaload, 1) := by decide +kernel
theorem dX2_lower_36 : decode cX2_lower 36 = .ok (.iload 4, 2) := by decide +kernel
theorem dX2_lower_38 : decode cX2_lower 38 = .ok (.aload_n 2, 1) := by decide +kernel
theorem dX2_lower_39 : decode cX2_lower 39 = .ok (.iload 5, 2) := by decide +kernel
theorem dX2_lower_41 : decode cX2_lower 41 = .ok (.iaload, 1) := by decide +kernel
theorem dX2_lower_42 : decode cX2_lower 42 = .ok (.imul, 1) := by decide +kernel
theorem dX2_lower_43 : decode cX2_lower 43 = .ok (.iadd, 1) := by decide +kernel
theorem dX2_lower_44 : decode cX2_lower 44 = .ok (.sipush 10007, 3) := by decide +kernel
theorem dX2_lower_47 : decode cX2_lower 47 = .ok (.irem, 1) := by decide +kernel
theorem dX2_lower_48 : decode cX2_lower 48 = .ok (.iastore, 1) := by decide +kernel
theorem dX2_lower_49 : decode cX2_lower 49 = .ok (.iinc 5 1, 3) := by decide +kernel
theorem dX2_lower_52 : decode cX2_lower 52 = .ok (.goto (-29), 3) := by decide +kernel
theorem dX2_lower_55 : decode cX2_lower 55 = .ok (.aload_n 0, 1) := by decide +kernel
theorem dX2_lower_56 : decode cX2_lower 56 = .ok (.iload_n 1, 1) := by decide +kernel
theorem dX2_lower_57 : decode cX2_lower 57 = .ok (.invokestatic 28, 3) := by decide +kernel
theorem dX2_lower_60 : decode cX2_lower 60 = .ok (.ireturn, 1) := by decide +kernel
