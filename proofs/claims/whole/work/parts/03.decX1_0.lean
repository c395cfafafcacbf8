theorem dX1_reduced_0 : decode cX1_reduced 0 = .ok (.iload_n 0, 1) := by decide +kernel
theorem dX1_reduced_1 : decode cX1_reduced 1 = .ok (.sipush 10007, 3) := by decide +kernel
theorem dX1_reduced_4 : decode cX1_reduced 4 = .ok (.invokestatic 9, 3) := by decide +kernel
theorem dX1_reduced_7 : decode cX1_reduced 7 = .ok (.ireturn, 1) := by decide +kernel
theorem dX1_power_0 : decode cX1_power 0 = .ok (.iconst 1, 1) := by decide +kernel
theorem dX1_power_1 : decode cX1_power 1 = .ok (.istore_n 2, 1) := by decide +kernel
theorem dX1_power_2 : decode cX1_power 2 = .ok (.iload_n 0, 1) := by decide +kernel
theorem dX1_power_3 : decode cX1_power 3 = .ok (.istore_n 3, 1) := by decide +kernel
theorem dX1_power_4 : decode cX1_power 4 = .ok (.iload_n 1, 1) := by decide +kernel
theorem dX1_power_5 : decode cX1_power 5 = .ok (.istore 4, 2) := by decide +kernel
theorem dX1_power_7 : decode cX1_power 7 = .ok (.iload 4, 2) := by decide +kernel
theorem dX1_power_9 : decode cX1_power 9 = .ok (.ifCond .le 36, 3) := by decide +kernel
theorem dX1_power_12 : decode cX1_power 12 = .ok (.iload 4, 2) := by decide +kernel
theorem dX1_power_14 : decode cX1_power 14 = .ok (.iconst 2, 1) := by decide +kernel
theorem dX1_power_15 : decode cX1_power 15 = .ok (.irem, 1) := by decide +kernel
theorem dX1_power_16 : decode cX1_power 16 = .ok (.iconst 1, 1) := by decide +kernel
theorem dX1_power_17 : decode cX1_power 17 = .ok (.if_icmp .ne 11, 3) := by decide +kernel
theorem dX1_power_20 : decode cX1_power 20 = .ok (.iload_n 2, 1) := by decide +kernel
theorem dX1_power_21 : decode cX1_power 21 = .ok (.iload_n 3, 1) := by decide +kernel
theorem dX1_power_22 : decode cX1_power 22 = .ok (.imul, 1) := by decide +kernel
theorem dX1_power_23 : decode cX1_power 23 = .ok (.sipush 10007, 3) := by decide +kernel
theorem dX1_power_26 : decode cX1_power 26 = .ok (.irem, 1) := by decide +kernel
theorem dX1_power_27 : decode cX1_power 27 = .ok (.istore_n 2, 1) := by decide +kernel
theorem dX1_power_28 : decode cX1_power 28 = .ok (.iload_n 3, 1) := by decide +kernel
theorem dX1_power_29 : decode cX1_power 29 = .ok (.iload_n 3, 1) := by decide +kernel
theorem dX1_power_30 : decode cX1_power 30 = .ok (.imul, 1) := by decide +kernel
theorem dX1_power_31 : decode cX1_power 31 = .ok (.sipush 10007, 3) := by decide +kernel
theorem dX1_power_34 : decode cX1_power 34 = .ok (.irem, 1) := by decide +kernel
theorem dX1_power_35 : decode cX1_power 35 = .ok (.istore_n 3, 1) := by decide +kernel
theorem dX1_power_36 : decode cX1_power 36 = .ok (.iload 4, 2) := by decide +kernel
theorem dX1_power_38 : decode cX1_power 38 = .ok (.iconst 2, 1) := by decide +kernel
theorem dX1_power_39 : decode cX1_power 39 = .ok (.idiv, 1) := by decide +kernel
theorem dX1_power_40 : decode cX1_power 40 = .ok (.istore 4, 2) := by decide +kernel
theorem dX1_power_42 : decode cX1_power 42 = .ok (.goto (-35), 3) := by decide +kernel
theorem dX1_power_45 : decode cX1_power 45 = .ok (.iload_n 2, 1) := by decide +kernel
theorem dX1_power_46 : decode cX1_power 46 = .ok (.ireturn, 1) := by decide +kernel
theorem dX1_inverse_0 : decode cX1_inverse 0 = .ok (.iload_n 0, 1) := by decide +kernel
theorem dX1_inverse_1 : decode cX1_inverse 1 = .ok (.sipush 10005, 3) := by decide +kernel
theorem dX1_inverse_4 : decode cX1_inverse 4 = .ok (.invokestatic 15, 3) := by decide +kernel
theorem dX1_inverse_7 : decode cX1_inverse 7 = .ok (.ireturn, 1) := by decide +kernel
theorem dX1_factorial_0 : decode cX1_factorial 0 = .ok (.iconst 1, 1) := by decide +kernel
theorem dX1_factorial_1 : decode cX1_factorial 1 = .ok (.istore_n 1, 1) := by decide +kernel
theorem dX1_factorial_2 : decode cX1_factorial 2 = .ok (.iconst 2, 1) := by decide +kernel
theorem dX1_factorial_3 : decode cX1_factorial 3 = .ok (.istore_n 2, 1) := by decide +kernel
theorem dX1_factorial_4 : decode cX1_factorial 4 = .ok (.iload_n 2, 1) := by decide +kernel
theorem dX1_factorial_5 : decode cX1_factorial 5 = .ok (.iload_n 0, 1) := by decide +kernel
theorem dX1_factorial_6 : decode cX1_factorial 6 = .ok (.if_icmp .gt 17, 3) := by decide +kernel
theorem dX1_factorial_9 : decode cX1_factorial 9 = .ok (.iload_n 1, 1) := by decide +kernel
theorem dX1_factorial_10 : decode cX1_factorial 10 = .ok (.iload_n 2, 1) := by decide +kernel
theorem dX1_factorial_11 : decode cX1_factorial 11 = .ok (.imul, 1) := by decide +kernel
theorem dX1_factorial_12 : decode cX1_factorial 12 = .ok (.sipush 10007, 3) := by decide +kernel
theorem dX1_factorial_15 : decode cX1_factorial 15 = .ok (.irem, 1) := by decide +kernel
theorem dX1_factorial_16 : decode cX1_factorial 16 = .ok (.istore_n 1, 1) := by decide +kernel
theorem dX1_factorial_17 : decode cX1_factorial 17 = .ok (.iinc 2 1, 3) := by decide +kernel
theorem dX1_factorial_20 : decode cX1_factorial 20 = .ok (.goto (-16), 3) := by decide +kernel
theorem dX1_factorial_23 : decode cX1_factorial 23 = .ok (.iload_n 1, 1) := by decide +kernel
theorem dX1_factorial_24 : decode cX1_factorial 24 = .ok (.ireturn, 1) := by decide +kernel
theorem dX1_choose_0 : decode cX1_choose 0 = .ok (.iconst 1, 1) := by decide +kernel
theorem dX1_choose_1 : decode cX1_choose 1 = .ok (.istore_n 2, 1) := by decide +kernel
theorem dX1_choose_2 : decode cX1_choose 2 = .ok (.iconst 1, 1) := by decide +kernel
theorem dX1_choose_3 : decode cX1_choose 3 = .ok (.istore_n 3, 1) := by decide +kernel
theorem dX1_choose_4 : decode cX1_choose 4 = .ok (.iload_n 3, 1) := by decide +kernel
theorem dX1_choose_5 : decode cX1_choose 5 = .ok (.iload_n 1, 1) := by decide +kernel
theorem dX1_choose_6 : decode cX1_choose 6 = .ok (.if_icmp .gt 19, 3) := by decide +kernel
theorem dX1_choose_9 : decode cX1_choose 9 = .ok (.iload_n 2, 1) := by decide +kernel
theorem dX1_choose_10 : decode cX1_choose 10 = .ok (.iload_n 0, 1) := by decide +kernel
theorem dX1_choose_11 : decode cX1_choose 11 = .ok (.iload_n 3, 1) := by decide +kernel
theorem dX1_choose_12 : decode cX1_choose 12 = .ok (.isub, 1) := by decide +kernel
theorem dX1_choose_13 : decode cX1_choose 13 = .ok (.iconst 1, 1) := by decide +kernel
theorem dX1_choose_14 : decode cX1_choose 14 = .ok (.iadd, 1) := by decide +kernel
theorem dX1_choose_15 : decode cX1_choose 15 = .ok (.imul, 1) := by decide +kernel
theorem dX1_choose_16 : decode cX1_choose 16 = .ok (.iload_n 3, 1) := by decide +kernel
theorem dX1_choose_17 : decode cX1_choose 17 = .ok (.idiv, 1) := by decide +kernel
theorem dX1_choose_18 : decode cX1_choose 18 = .ok (.istore_n 2, 1) := by decide +kernel
theorem dX1_choose_19 : decode cX1_choose 19 = .ok (.iinc 3 1, 3) := by decide +kernel
theorem dX1_choose_22 : decode cX1_choose 22 = .ok (.goto (-18), 3) := by decide +kernel
theorem dX1_choose_25 : decode cX1_choose 25 = .ok (.iload_n 2, 1) := by decide +kernel
theorem dX1_choose_26 : decode cX1_choose 26 = .ok (.ireturn, 1) := by decide +kernel
