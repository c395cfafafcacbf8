theorem dX0_init_0 : decode cX0_init 0 = .ok (.aload_n 0, 1) := by decide +kernel
theorem dX0_init_1 : decode cX0_init 1 = .ok (.invokespecial 3, 3) := by decide +kernel
theorem dX0_init_4 : decode cX0_init 4 = .ok (.aload_n 0, 1) := by decide +kernel
theorem dX0_init_5 : decode cX0_init 5 = .ok (.sipush 256, 3) := by decide +kernel
theorem dX0_init_8 : decode cX0_init 8 = .ok (.newarray .int, 2) := by decide +kernel
theorem dX0_init_10 : decode cX0_init 10 = .ok (.putfield 11, 3) := by decide +kernel
theorem dX0_init_13 : decode cX0_init 13 = .ok (.aload_n 0, 1) := by decide +kernel
theorem dX0_init_14 : decode cX0_init 14 = .ok (.iconst 1, 1) := by decide +kernel
theorem dX0_init_15 : decode cX0_init 15 = .ok (.putfield 15, 3) := by decide +kernel
theorem dX0_init_18 : decode cX0_init 18 = .ok (.return_, 1) := by decide +kernel
theorem dX0_at_0 : decode cX0_at 0 = .ok (.aload_n 0, 1) := by decide +kernel
theorem dX0_at_1 : decode cX0_at 1 = .ok (.getfield 11, 3) := by decide +kernel
theorem dX0_at_4 : decode cX0_at 4 = .ok (.iload_n 1, 1) := by decide +kernel
theorem dX0_at_5 : decode cX0_at 5 = .ok (.bipush 16, 2) := by decide +kernel
theorem dX0_at_7 : decode cX0_at 7 = .ok (.imul, 1) := by decide +kernel
theorem dX0_at_8 : decode cX0_at 8 = .ok (.iload_n 2, 1) := by decide +kernel
theorem dX0_at_9 : decode cX0_at 9 = .ok (.iadd, 1) := by decide +kernel
theorem dX0_at_10 : decode cX0_at 10 = .ok (.iaload, 1) := by decide +kernel
theorem dX0_at_11 : decode cX0_at 11 = .ok (.ireturn, 1) := by decide +kernel
theorem dX0_set_0 : decode cX0_set 0 = .ok (.aload_n 0, 1) := by decide +kernel
theorem dX0_set_1 : decode cX0_set 1 = .ok (.getfield 11, 3) := by decide +kernel
theorem dX0_set_4 : decode cX0_set 4 = .ok (.iload_n 1, 1) := by decide +kernel
theorem dX0_set_5 : decode cX0_set 5 = .ok (.bipush 16, 2) := by decide +kernel
theorem dX0_set_7 : decode cX0_set 7 = .ok (.imul, 1) := by decide +kernel
theorem dX0_set_8 : decode cX0_set 8 = .ok (.iload_n 2, 1) := by decide +kernel
theorem dX0_set_9 : decode cX0_set 9 = .ok (.iadd, 1) := by decide +kernel
theorem dX0_set_10 : decode cX0_set 10 = .ok (.iload_n 3, 1) := by decide +kernel
theorem dX0_set_11 : decode cX0_set 11 = .ok (.iastore, 1) := by decide +kernel
theorem dX0_set_12 : decode cX0_set 12 = .ok (.return_, 1) := by decide +kernel
theorem dX0_clear_0 : decode cX0_clear 0 = .ok (.aload_n 0, 1) := by decide +kernel
theorem dX0_clear_1 : decode cX0_clear 1 = .ok (.getfield 11, 3) := by decide +kernel
theorem dX0_clear_4 : decode cX0_clear 4 = .ok (.invokestatic 19, 3) := by decide +kernel
theorem dX0_clear_7 : decode cX0_clear 7 = .ok (.return_, 1) := by decide +kernel
theorem dX0_layStairs_0 : decode cX0_layStairs 0 = .ok (.iconst 0, 1) := by decide +kernel
theorem dX0_layStairs_1 : decode cX0_layStairs 1 = .ok (.istore 5, 2) := by decide +kernel
theorem dX0_layStairs_3 : decode cX0_layStairs 3 = .ok (.iload 5, 2) := by decide +kernel
theorem dX0_layStairs_5 : decode cX0_layStairs 5 = .ok (.iload 4, 2) := by decide +kernel
theorem dX0_layStairs_7 : decode cX0_layStairs 7 = .ok (.if_icmp .ge 41, 3) := by decide +kernel
theorem dX0_layStairs_10 : decode cX0_layStairs 10 = .ok (.iconst 0, 1) := by decide +kernel
theorem dX0_layStairs_11 : decode cX0_layStairs 11 = .ok (.istore 6, 2) := by decide +kernel
theorem dX0_layStairs_13 : decode cX0_layStairs 13 = .ok (.iload 6, 2) := by decide +kernel
theorem dX0_layStairs_15 : decode cX0_layStairs 15 = .ok (.iload_n 2, 1) := by decide +kernel
theorem dX0_layStairs_16 : decode cX0_layStairs 16 = .ok (.if_icmp .gt 26, 3) := by decide +kernel
theorem dX0_layStairs_19 : decode cX0_layStairs 19 = .ok (.aload_n 0, 1) := by decide +kernel
theorem dX0_layStairs_20 : decode cX0_layStairs 20 = .ok (.iload_n 3, 1) := by decide +kernel
theorem dX0_layStairs_21 : decode cX0_layStairs 21 = .ok (.iload 5, 2) := by decide +kernel
theorem dX0_layStairs_23 : decode cX0_layStairs 23 = .ok (.iadd, 1) := by decide +kernel
theorem dX0_layStairs_24 : decode cX0_layStairs 24 = .ok (.iload 5, 2) := by decide +kernel
theorem dX0_layStairs_26 : decode cX0_layStairs 26 = .ok (.iload 6, 2) := by decide +kernel
theorem dX0_layStairs_28 : decode cX0_layStairs 28 = .ok (.iadd, 1) := by decide +kernel
theorem dX0_layStairs_29 : decode cX0_layStairs 29 = .ok (.aload_n 1, 1) := by decide +kernel
theorem dX0_layStairs_30 : decode cX0_layStairs 30 = .ok (.iload 6, 2) := by decide +kernel
theorem dX0_layStairs_32 : decode cX0_layStairs 32 = .ok (.iaload, 1) := by decide +kernel
theorem dX0_layStairs_33 : decode cX0_layStairs 33 = .ok (.invokevirtual 25, 3) := by decide +kernel
theorem dX0_layStairs_36 : decode cX0_layStairs 36 = .ok (.iinc 6 1, 3) := by decide +kernel
theorem dX0_layStairs_39 : decode cX0_layStairs 39 = .ok (.goto (-26), 3) := by decide +kernel
theorem dX0_layStairs_42 : decode cX0_layStairs 42 = .ok (.iinc 5 1, 3) := by decide +kernel
theorem dX0_layStairs_45 : decode cX0_layStairs 45 = .ok (.goto (-42), 3) := by decide +kernel
theorem dX0_layStairs_48 : decode cX0_layStairs 48 = .ok (.return_, 1) := by decide +kernel
theorem dX0_laySquare_0 : decode cX0_laySquare 0 = .ok (.iconst 0, 1) := by decide +kernel
theorem dX0_laySquare_1 : decode cX0_laySquare 1 = .ok (.istore 4, 2) := by decide +kernel
theorem dX0_laySquare_3 : decode cX0_laySquare 3 = .ok (.iload 4, 2) := by decide +kernel
theorem dX0_laySquare_5 : decode cX0_laySquare 5 = .ok (.iload_n 3, 1) := by decide +kernel
theorem dX0_laySquare_6 : decode cX0_laySquare 6 = .ok (.if_icmp .gt 41, 3) := by decide +kernel
theorem dX0_laySquare_9 : decode cX0_laySquare 9 = .ok (.iconst 0, 1) := by decide +kernel
theorem dX0_laySquare_10 : decode cX0_laySquare 10 = .ok (.istore 5, 2) := by decide +kernel
theorem dX0_laySquare_12 : decode cX0_laySquare 12 = .ok (.iload 5, 2) := by decide +kernel
theorem dX0_laySquare_14 : decode cX0_laySquare 14 = .ok (.iload_n 2, 1) := by decide +kernel
theorem dX0_laySquare_15 : decode cX0_laySquare 15 = .ok (.iload_n 3, 1) := by decide +kernel
theorem dX0_laySquare_16 : decode cX0_laySquare 16 = .ok (.isub, 1) := by decide +kernel
theorem dX0_laySquare_17 : decode cX0_laySquare 17 = .ok (.if_icmp .gt 24, 3) := by decide +kernel
theorem dX0_laySquare_20 : decode cX0_laySquare 20 = .ok (.aload_n 0, 1) := by decide +kernel
theorem dX0_laySquare_21 : decode cX0_laySquare 21 = .ok (.iload 4, 2) := by decide +kernel
theorem dX0_laySquare_23 : decode cX0_laySquare 23 = .ok (.iload 5, 2) := by decide +kernel
theorem dX0_laySquare_25 : decode cX0_laySquare 25 = .ok (.aload_n 1, 1) := by decide +kernel
theorem dX0_laySquare_26 : decode cX0_laySquare 26 = .ok (.iload 4, 2) := by decide +kernel
theorem dX0_laySquare_28 : decode cX0_laySquare 28 = .ok (.iload 5, 2) := by decide +kernel
theorem dX0_laySquare_30 : decode cX0_laySquare 30 = .ok (.iadd, 1) := by decide +kernel
theorem dX0_laySquare_31 : decode cX0_laySquare 31 = .ok (.iaload, 1) := by decide +kernel
theorem dX0_laySquare_32 : decode cX0_laySquare 32 = .ok (.invokevirtual 25, 3) := by decide +kernel
theorem dX0_laySquare_35 : decode cX0_laySquare 35 = .ok (.iinc 5 1, 3) := by decide +kernel
theorem dX0_laySquare_38 : decode cX0_laySquare 38 = .ok (.goto (-26), 3) := by decide +kernel
theorem dX0_laySquare_41 : decode cX0_laySquare 41 = .ok (.iinc 4 1, 3) := by decide +kernel
theorem dX0_laySquare_44 : decode cX0_laySquare 44 = .ok (.goto (-41), 3) := by decide +kernel
theorem dX0_laySquare_47 : decode cX0_laySquare 47 = .ok (.return_, 1) := by decide +kernel
theorem dX0_layPowers_0 : decode cX0_layPowers 0 = .ok (.iconst 0, 1) := by decide +kernel
theorem dX0_layPowers_1 : decode cX0_layPowers 1 = .ok (.istore 5, 2) := by decide +kernel
theorem dX0_layPowers_3 : decode cX0_layPowers 3 = .ok (.iload 5, 2) := by decide +kernel
theorem dX0_layPowers_5 : decode cX0_layPowers 5 = .ok (.iload_n 2, 1) := by decide +kernel
theorem dX0_layPowers_6 : decode cX0_layPowers 6 = .ok (.if_icmp .ge 53, 3) := by decide +kernel
theorem dX0_layPowers_9 : decode cX0_layPowers 9 = .ok (.iconst 1, 1) := by decide +kernel
theorem dX0_layPowers_10 : decode cX0_layPowers 10 = .ok (.istore 6, 2) := by decide +kernel
theorem dX0_layPowers_12 : decode cX0_layPowers 12 = .ok (.iconst 0, 1) := by decide +kernel
theorem dX0_layPowers_13 : decode cX0_layPowers 13 = .ok (.istore 7, 2) := by decide +kernel
theorem dX0_layPowers_15 : decode cX0_layPowers 15 = .ok (.iload 7, 2) := by decide +kernel
theorem dX0_layPowers_17 : decode cX0_layPowers 17 = .ok (.iload 4, 2) := by decide +kernel
theorem dX0_layPowers_19 : decode cX0_layPowers 19 = .ok (.if_icmp .gt 34, 3) := by decide +kernel
theorem dX0_layPowers_22 : decode cX0_layPowers 22 = .ok (.aload_n 0, 1) := by decide +kernel
theorem dX0_layPowers_23 : decode cX0_layPowers 23 = .ok (.iload 7, 2) := by decide +kernel
theorem dX0_layPowers_25 : decode cX0_layPowers 25 = .ok (.iload 5, 2) := by decide +kernel
theorem dX0_layPowers_27 : decode cX0_layPowers 27 = .ok (.iload 6, 2) := by decide +kernel
theorem dX0_layPowers_29 : decode cX0_layPowers 29 = .ok (.invokevirtual 25, 3) := by decide +kernel
theorem dX0_layPowers_32 : decode cX0_layPowers 32 = .ok (.iload 6, 2) := by decide +kernel
theorem dX0_layPowers_34 : decode cX0_layPowers 34 = .ok (.aload_n 1, 1) := by decide +kernel
theorem dX0_layPowers_35 : decode cX0_layPowers 35 = .ok (.iload 5, 2) := by decide +kernel
theorem dX0_layPowers_37 : decode cX0_layPowers 37 = .ok (.invokevirtual 29, 3) := by decide +kernel
theorem dX0_layPowers_40 : decode cX0_layPowers 40 = .ok (.imul, 1) := by decide +kernel
theorem dX0_layPowers_41 : decode cX0_layPowers 41 = .ok (.sipush 10007, 3) := by decide +kernel
theorem dX0_layPowers_44 : decode cX0_layPowers 44 = .ok (.irem, 1) := by decide +kernel
theorem dX0_layPowers_45 : decode cX0_layPowers 45 = .ok (.istore 6, 2) := by decide +kernel
theorem dX0_layPowers_47 : decode cX0_layPowers 47 = .ok (.iinc 7 1, 3) := by decide +kernel
theorem dX0_layPowers_50 : decode cX0_layPowers 50 = .ok (.goto (-35), 3) := by decide +kernel
theorem dX0_layPowers_53 : decode cX0_layPowers 53 = .ok (.iinc 5 1, 3) := by decide +kernel
theorem dX0_layPowers_56 : decode cX0_layPowers 56 = .ok (.goto (-53), 3) := by decide +kernel
theorem dX0_layPowers_59 : decode cX0_layPowers 59 = .ok (.iconst 0, 1) := by decide +kernel
theorem dX0_layPowers_60 : decode cX0_layPowers 60 = .ok (.istore 5, 2) := by decide +kernel
theorem dX0_layPowers_62 : decode cX0_layPowers 62 = .ok (.iload 5, 2) := by decide +kernel
theorem dX0_layPowers_64 : decode cX0_layPowers 64 = .ok (.iload 4, 2) := by decide +kernel
theorem dX0_layPowers_66 : decode cX0_layPowers 66 = .ok (.if_icmp .gt 20, 3) := by decide +kernel
theorem dX0_layPowers_69 : decode cX0_layPowers 69 = .ok (.aload_n 0, 1) := by decide +kernel
theorem dX0_layPowers_70 : decode cX0_layPowers 70 = .ok (.iload 5, 2) := by decide +kernel
theorem dX0_layPowers_72 : decode cX0_layPowers 72 = .ok (.iload_n 2, 1) := by decide +kernel
theorem dX0_layPowers_73 : decode cX0_layPowers 73 = .ok (.aload_n 3, 1) := by decide +kernel
theorem dX0_layPowers_74 : decode cX0_layPowers 74 = .ok (.iload 5, 2) := by decide +kernel
theorem dX0_layPowers_76 : decode cX0_layPowers 76 = .ok (.iaload, 1) := by decide +kernel
theorem dX0_layPowers_77 : decode cX0_layPowers 77 = .ok (.invokevirtual 25, 3) := by decide +kernel
theorem dX0_layPowers_80 : decode cX0_layPowers 80 = .ok (.iinc 5 1, 3) := by decide +kernel
theorem dX0_layPowers_83 : decode cX0_layPowers 83 = .ok (.goto (-21), 3) := by decide +kernel
theorem dX0_layPowers_86 : decode cX0_layPowers 86 = .ok (.return_, 1) := by decide +kernel
theorem dX0_determinant_0 : decode cX0_determinant 0 = .ok (.aload_n 0, 1) := by decide +kernel
theorem dX0_determinant_1 : decode cX0_determinant 1 = .ok (.iload_n 1, 1) := by decide +kernel
theorem dX0_determinant_2 : decode cX0_determinant 2 = .ok (.iload_n 1, 1) := by decide +kernel
theorem dX0_determinant_3 : decode cX0_determinant 3 = .ok (.iload_n 1, 1) := by decide +kernel
theorem dX0_determinant_4 : decode cX0_determinant 4 = .ok (.invokevirtual 35, 3) := by decide +kernel
theorem dX0_determinant_7 : decode cX0_determinant 7 = .ok (.iload_n 1, 1) := by decide +kernel
theorem dX0_determinant_8 : decode cX0_determinant 8 = .ok (.if_icmp .ne 10, 3) := by decide +kernel
theorem dX0_determinant_11 : decode cX0_determinant 11 = .ok (.aload_n 0, 1) := by decide +kernel
theorem dX0_determinant_12 : decode cX0_determinant 12 = .ok (.getfield 15, 3) := by decide +kernel
theorem dX0_determinant_15 : decode cX0_determinant 15 = .ok (.goto 4, 3) := by decide +kernel
theorem dX0_determinant_18 : decode cX0_determinant 18 = .ok (.iconst 0, 1) := by decide +kernel
theorem dX0_determinant_19 : decode cX0_determinant 19 = .ok (.ireturn, 1) := by decide +kernel
theorem dX0_reduce_0 : decode cX0_reduce 0 = .ok (.aload_n 0, 1) := by decide +kernel
theorem dX0_reduce_1 : decode cX0_reduce 1 = .ok (.iconst 1, 1) := by decide +kernel
theorem dX0_reduce_2 : decode cX0_reduce 2 = .ok (.putfield 15, 3) := by decide +kernel
theorem dX0_reduce_5 : decode cX0_reduce 5 = .ok (.iconst 0, 1) := by decide +kernel
theorem dX0_reduce_6 : decode cX0_reduce 6 = .ok (.istore 4, 2) := by decide +kernel
theorem dX0_reduce_8 : decode cX0_reduce 8 = .ok (.iconst 0, 1) := by decide +kernel
theorem dX0_reduce_9 : decode cX0_reduce 9 = .ok (.istore 5, 2) := by decide +kernel
theorem dX0_reduce_11 : decode cX0_reduce 11 = .ok (.iload 5, 2) := by decide +kernel
theorem dX0_reduce_13 : decode cX0_reduce 13 = .ok (.iload_n 3, 1) := by decide +kernel
theorem dX0_reduce_14 : decode cX0_reduce 14 = .ok (.if_icmp .ge 63, 3) := by decide +kernel
theorem dX0_reduce_17 : decode cX0_reduce 17 = .ok (.iload 4, 2) := by decide +kernel
theorem dX0_reduce_19 : decode cX0_reduce 19 = .ok (.iload_n 1, 1) := by decide +kernel
theorem dX0_reduce_20 : decode cX0_reduce 20 = .ok (.if_icmp .ge 57, 3) := by decide +kernel
theorem dX0_reduce_23 : decode cX0_reduce 23 = .ok (.aload_n 0, 1) := by decide +kernel
theorem dX0_reduce_24 : decode cX0_reduce 24 = .ok (.iload 5, 2) := by decide +kernel
theorem dX0_reduce_26 : decode cX0_reduce 26 = .ok (.iload 4, 2) := by decide +kernel
theorem dX0_reduce_28 : decode cX0_reduce 28 = .ok (.iload_n 1, 1) := by decide +kernel
theorem dX0_reduce_29 : decode cX0_reduce 29 = .ok (.invokevirtual 39, 3) := by decide +kernel
theorem dX0_reduce_32 : decode cX0_reduce 32 = .ok (.istore 6, 2) := by decide +kernel
theorem dX0_reduce_34 : decode cX0_reduce 34 = .ok (.iload 6, 2) := by decide +kernel
theorem dX0_reduce_36 : decode cX0_reduce 36 = .ok (.iconst (-1), 1) := by decide +kernel
theorem dX0_reduce_37 : decode cX0_reduce 37 = .ok (.if_icmp .eq 34, 3) := by decide +kernel
theorem dX0_reduce_40 : decode cX0_reduce 40 = .ok (.aload_n 0, 1) := by decide +kernel
theorem dX0_reduce_41 : decode cX0_reduce 41 = .ok (.iload 6, 2) := by decide +kernel
theorem dX0_reduce_43 : decode cX0_reduce 43 = .ok (.iload 4, 2) := by decide +kernel
theorem dX0_reduce_45 : decode cX0_reduce 45 = .ok (.iload_n 2, 1) := by decide +kernel
theorem dX0_reduce_46 : decode cX0_reduce 46 = .ok (.invokevirtual 42, 3) := by decide +kernel
theorem dX0_reduce_49 : decode cX0_reduce 49 = .ok (.aload_n 0, 1) := by decide +kernel
theorem dX0_reduce_50 : decode cX0_reduce 50 = .ok (.iload 4, 2) := by decide +kernel
theorem dX0_reduce_52 : decode cX0_reduce 52 = .ok (.iload 5, 2) := by decide +kernel
theorem dX0_reduce_54 : decode cX0_reduce 54 = .ok (.iload_n 2, 1) := by decide +kernel
theorem dX0_reduce_55 : decode cX0_reduce 55 = .ok (.invokevirtual 45, 3) := by decide +kernel
theorem dX0_reduce_58 : decode cX0_reduce 58 = .ok (.aload_n 0, 1) := by decide +kernel
theorem dX0_reduce_59 : decode cX0_reduce 59 = .ok (.iload 5, 2) := by decide +kernel
theorem dX0_reduce_61 : decode cX0_reduce 61 = .ok (.iload 4, 2) := by decide +kernel
theorem dX0_reduce_63 : decode cX0_reduce 63 = .ok (.iload_n 1, 1) := by decide +kernel
theorem dX0_reduce_64 : decode cX0_reduce 64 = .ok (.iload_n 2, 1) := by decide +kernel
theorem dX0_reduce_65 : decode cX0_reduce 65 = .ok (.invokevirtual 48, 3) := by decide +kernel
theorem dX0_reduce_68 : decode cX0_reduce 68 = .ok (.iinc 4 1, 3) := by decide +kernel
theorem dX0_reduce_71 : decode cX0_reduce 71 = .ok (.iinc 5 1, 3) := by decide +kernel
theorem dX0_reduce_74 : decode cX0_reduce 74 = .ok (.goto (-63), 3) := by decide +kernel
theorem dX0_reduce_77 : decode cX0_reduce 77 = .ok (.iload 4, 2) := by decide +kernel
theorem dX0_reduce_79 : decode cX0_reduce 79 = .ok (.ireturn, 1) := by decide +kernel
theorem dX0_rowWith_0 : decode cX0_rowWith 0 = .ok (.iload_n 2, 1) := by decide +kernel
theorem dX0_rowWith_1 : decode cX0_rowWith 1 = .ok (.istore 4, 2) := by decide +kernel
theorem dX0_rowWith_3 : decode cX0_rowWith 3 = .ok (.iload 4, 2) := by decide +kernel
theorem dX0_rowWith_5 : decode cX0_rowWith 5 = .ok (.iload_n 3, 1) := by decide +kernel
theorem dX0_rowWith_6 : decode cX0_rowWith 6 = .ok (.if_icmp .ge 22, 3) := by decide +kernel
theorem dX0_rowWith_9 : decode cX0_rowWith 9 = .ok (.aload_n 0, 1) := by decide +kernel
theorem dX0_rowWith_10 : decode cX0_rowWith 10 = .ok (.iload 4, 2) := by decide +kernel
theorem dX0_rowWith_12 : decode cX0_rowWith 12 = .ok (.iload_n 1, 1) := by decide +kernel
theorem dX0_rowWith_13 : decode cX0_rowWith 13 = .ok (.invokevirtual 52, 3) := by decide +kernel
theorem dX0_rowWith_16 : decode cX0_rowWith 16 = .ok (.ifCond .eq 6, 3) := by decide +kernel
theorem dX0_rowWith_19 : decode cX0_rowWith 19 = .ok (.iload 4, 2) := by decide +kernel
theorem dX0_rowWith_21 : decode cX0_rowWith 21 = .ok (.ireturn, 1) := by decide +kernel
theorem dX0_rowWith_22 : decode cX0_rowWith 22 = .ok (.iinc 4 1, 3) := by decide +kernel
theorem dX0_rowWith_25 : decode cX0_rowWith 25 = .ok (.goto (-22), 3) := by decide +kernel
theorem dX0_rowWith_28 : decode cX0_rowWith 28 = .ok (.iconst (-1), 1) := by decide +kernel
theorem dX0_rowWith_29 : decode cX0_rowWith 29 = .ok (.ireturn, 1) := by decide +kernel
theorem dX0_bringUp_0 : decode cX0_bringUp 0 = .ok (.iload_n 1, 1) := by decide +kernel
theorem dX0_bringUp_1 : decode cX0_bringUp 1 = .ok (.iload_n 2, 1) := by decide +kernel
theorem dX0_bringUp_2 : decode cX0_bringUp 2 = .ok (.if_icmp .ne 4, 3) := by decide +kernel
theorem dX0_bringUp_5 : decode cX0_bringUp 5 = .ok (.return_, 1) := by decide +kernel
theorem dX0_bringUp_6 : decode cX0_bringUp 6 = .ok (.aload_n 0, 1) := by decide +kernel
theorem dX0_bringUp_7 : decode cX0_bringUp 7 = .ok (.sipush 10007, 3) := by decide +kernel
theorem dX0_bringUp_10 : decode cX0_bringUp 10 = .ok (.aload_n 0, 1) := by decide +kernel
theorem dX0_bringUp_11 : decode cX0_bringUp 11 = .ok (.getfield 15, 3) := by decide +kernel
theorem dX0_bringUp_14 : decode cX0_bringUp 14 = .ok (.isub, 1) := by decide +kernel
theorem dX0_bringUp_15 : decode cX0_bringUp 15 = .ok (.putfield 15, 3) := by decide +kernel
theorem dX0_bringUp_18 : decode cX0_bringUp 18 = .ok (.iconst 0, 1) := by decide +kernel
theorem dX0_bringUp_19 : decode cX0_bringUp 19 = .ok (.istore 4, 2) := by decide +kernel
theorem dX0_bringUp_21 : decode cX0_bringUp 21 = .ok (.iload 4, 2) := by decide +kernel
theorem dX0_bringUp_23 : decode cX0_bringUp 23 = .ok (.iload_n 3, 1) := by decide +kernel
theorem dX0_bringUp_24 : decode cX0_bringUp 24 = .ok (.if_icmp .ge 41, 3) := by decide +kernel
theorem dX0_bringUp_27 : decode cX0_bringUp 27 = .ok (.aload_n 0, 1) := by decide +kernel
theorem dX0_bringUp_28 : decode cX0_bringUp 28 = .ok (.iload_n 2, 1) := by decide +kernel
theorem dX0_bringUp_29 : decode cX0_bringUp 29 = .ok (.iload 4, 2) := by decide +kernel
theorem dX0_bringUp_31 : decode cX0_bringUp 31 = .ok (.invokevirtual 52, 3) := by decide +kernel
theorem dX0_bringUp_34 : decode cX0_bringUp 34 = .ok (.istore 5, 2) := by decide +kernel
theorem dX0_bringUp_36 : decode cX0_bringUp 36 = .ok (.aload_n 0, 1) := by decide +kernel
theorem dX0_bringUp_37 : decode cX0_bringUp 37 = .ok (.iload_n 2, 1) := by decide +kernel
theorem dX0_bringUp_38 : decode cX0_bringUp 38 = .ok (.iload 4, 2) := by decide +kernel
theorem dX0_bringUp_40 : decode cX0_bringUp 40 = .ok (.aload_n 0, 1) := by decide +kernel
theorem dX0_bringUp_41 : decode cX0_bringUp 41 = .ok (.iload_n 1, 1) := by decide +kernel
theorem dX0_bringUp_42 : decode cX0_bringUp 42 = .ok (.iload 4, 2) := by decide +kernel
theorem dX0_bringUp_44 : decode cX0_bringUp 44 = .ok (.invokevirtual 52, 3) := by decide +kernel
theorem dX0_bringUp_47 : decode cX0_bringUp 47 = .ok (.invokevirtual 25, 3) := by decide +kernel
theorem dX0_bringUp_50 : decode cX0_bringUp 50 = .ok (.aload_n 0, 1) := by decide +kernel
theorem dX0_bringUp_51 : decode cX0_bringUp 51 = .ok (.iload_n 1, 1) := by decide +kernel
theorem dX0_bringUp_52 : decode cX0_bringUp 52 = .ok (.iload 4, 2) := by decide +kernel
theorem dX0_bringUp_54 : decode cX0_bringUp 54 = .ok (.iload 5, 2) := by decide +kernel
theorem dX0_bringUp_56 : decode cX0_bringUp 56 = .ok (.invokevirtual 25, 3) := by decide +kernel
theorem dX0_bringUp_59 : decode cX0_bringUp 59 = .ok (.iinc 4 1, 3) := by decide +kernel
theorem dX0_bringUp_62 : decode cX0_bringUp 62 = .ok (.goto (-41), 3) := by decide +kernel
theorem dX0_bringUp_65 : decode cX0_bringUp 65 = .ok (.return_, 1) := by decide +kernel
theorem dX0_divideRow_0 : decode cX0_divideRow 0 = .ok (.aload_n 0, 1) := by decide +kernel
theorem dX0_divideRow_1 : decode cX0_divideRow 1 = .ok (.iload_n 1, 1) := by decide +kernel
theorem dX0_divideRow_2 : decode cX0_divideRow 2 = .ok (.iload_n 2, 1) := by decide +kernel
theorem dX0_divideRow_3 : decode cX0_divideRow 3 = .ok (.invokevirtual 52, 3) := by decide +kernel
theorem dX0_divideRow_6 : decode cX0_divideRow 6 = .ok (.istore 4, 2) := by decide +kernel
theorem dX0_divideRow_8 : decode cX0_divideRow 8 = .ok (.aload_n 0, 1) := by decide +kernel
theorem dX0_divideRow_9 : decode cX0_divideRow 9 = .ok (.aload_n 0, 1) := by decide +kernel
theorem dX0_divideRow_10 : decode cX0_divideRow 10 = .ok (.getfield 15, 3) := by decide +kernel
theorem dX0_divideRow_13 : decode cX0_divideRow 13 = .ok (.iload 4, 2) := by decide +kernel
theorem dX0_divideRow_15 : decode cX0_divideRow 15 = .ok (.imul, 1) := by decide +kernel
theorem dX0_divideRow_16 : decode cX0_divideRow 16 = .ok (.sipush 10007, 3) := by decide +kernel
theorem dX0_divideRow_19 : decode cX0_divideRow 19 = .ok (.irem, 1) := by decide +kernel
theorem dX0_divideRow_20 : decode cX0_divideRow 20 = .ok (.putfield 15, 3) := by decide +kernel
theorem dX0_divideRow_23 : decode cX0_divideRow 23 = .ok (.iload 4, 2) := by decide +kernel
theorem dX0_divideRow_25 : decode cX0_divideRow 25 = .ok (.invokestatic 56, 3) := by decide +kernel
theorem dX0_divideRow_28 : decode cX0_divideRow 28 = .ok (.istore 5, 2) := by decide +kernel
theorem dX0_divideRow_30 : decode cX0_divideRow 30 = .ok (.iconst 0, 1) := by decide +kernel
theorem dX0_divideRow_31 : decode cX0_divideRow 31 = .ok (.istore 6, 2) := by decide +kernel
theorem dX0_divideRow_33 : decode cX0_divideRow 33 = .ok (.iload 6, 2) := by decide +kernel
theorem dX0_divideRow_35 : decode cX0_divideRow 35 = .ok (.iload_n 3, 1) := by decide +kernel
theorem dX0_divideRow_36 : decode cX0_divideRow 36 = .ok (.if_icmp .ge 30, 3) := by decide +kernel
theorem dX0_divideRow_39 : decode cX0_divideRow 39 = .ok (.aload_n 0, 1) := by decide +kernel
theorem dX0_divideRow_40 : decode cX0_divideRow 40 = .ok (.iload_n 1, 1) := by decide +kernel
theorem dX0_divideRow_41 : decode cX0_divideRow 41 = .ok (.iload 6, 2) := by decide +kernel
theorem dX0_divideRow_43 : decode cX0_divideRow 43 = .ok (.aload_n 0, 1) := by decide +kernel
theorem dX0_divideRow_44 : decode cX0_divideRow 44 = .ok (.iload_n 1, 1) := by decide +kernel
theorem dX0_divideRow_45 : decode cX0_divideRow 45 = .ok (.iload 6, 2) := by decide +kernel
theorem dX0_divideRow_47 : decode cX0_divideRow 47 = .ok (.invokevirtual 52, 3) := by decide +kernel
theorem dX0_divideRow_50 : decode cX0_divideRow 50 = .ok (.iload 5, 2) := by decide +kernel
theorem dX0_divideRow_52 : decode cX0_divideRow 52 = .ok (.imul, 1) := by decide +kernel
theorem dX0_divideRow_53 : decode cX0_divideRow 53 = .ok (.sipush 10007, 3) := by decide +kernel
theorem dX0_divideRow_56 : decode cX0_divideRow 56 = .ok (.irem, 1) := by decide +kernel
theorem dX0_divideRow_57 : decode cX0_divideRow 57 = .ok (.invokevirtual 25, 3) := by decide +kernel
theorem dX0_divideRow_60 : decode cX0_divideRow 60 = .ok (.iinc 6 1, 3) := by decide +kernel
theorem dX0_divideRow_63 : decode cX0_divideRow 63 = .ok (.goto (-30), 3) := by decide +kernel
theorem dX0_divideRow_66 : decode cX0_divideRow 66 = .ok (.return_, 1) := by decide +kernel
theorem dX0_clearPlace_0 : decode cX0_clearPlace 0 = .ok (.iconst 0, 1) := by decide +kernel
theorem dX0_clearPlace_1 : decode cX0_clearPlace 1 = .ok (.istore 5, 2) := by decide +kernel
theorem dX0_clearPlace_3 : decode cX0_clearPlace 3 = .ok (.iload 5, 2) := by decide +kernel
theorem dX0_clearPlace_5 : decode cX0_clearPlace 5 = .ok (.iload_n 3, 1) := by decide +kernel
theorem dX0_clearPlace_6 : decode cX0_clearPlace 6 = .ok (.if_icmp .ge 83, 3) := by decide +kernel
theorem dX0_clearPlace_9 : decode cX0_clearPlace 9 = .ok (.sipush 10007, 3) := by decide +kernel
theorem dX0_clearPlace_12 : decode cX0_clearPlace 12 = .ok (.aload_n 0, 1) := by decide +kernel
theorem dX0_clearPlace_13 : decode cX0_clearPlace 13 = .ok (.iload 5, 2) := by decide +kernel
theorem dX0_clearPlace_15 : decode cX0_clearPlace 15 = .ok (.iload_n 1, 1) := by decide +kernel
theorem dX0_clearPlace_16 : decode cX0_clearPlace 16 = .ok (.invokevirtual 52, 3) := by decide +kernel
theorem dX0_clearPlace_19 : decode cX0_clearPlace 19 = .ok (.isub, 1) := by decide +kernel
theorem dX0_clearPlace_20 : decode cX0_clearPlace 20 = .ok (.istore 6, 2) := by decide +kernel
theorem dX0_clearPlace_22 : decode cX0_clearPlace 22 = .ok (.iload 5, 2) := by decide +kernel
theorem dX0_clearPlace_24 : decode cX0_clearPlace 24 = .ok (.iload_n 2, 1) := by decide +kernel
theorem dX0_clearPlace_25 : decode cX0_clearPlace 25 = .ok (.if_icmp .eq 58, 3) := by decide +kernel
theorem dX0_clearPlace_28 : decode cX0_clearPlace 28 = .ok (.iload 6, 2) := by decide +kernel
theorem dX0_clearPlace_30 : decode cX0_clearPlace 30 = .ok (.sipush 10007, 3) := by decide +kernel
theorem dX0_clearPlace_33 : decode cX0_clearPlace 33 = .ok (.if_icmp .eq 50, 3) := by decide +kernel
theorem dX0_clearPlace_36 : decode cX0_clearPlace 36 = .ok (.iconst 0, 1) := by decide +kernel
theorem dX0_clearPlace_37 : decode cX0_clearPlace 37 = .ok (.istore 7, 2) := by decide +kernel
theorem dX0_clearPlace_39 : decode cX0_clearPlace 39 = .ok (.iload 7, 2) := by decide +kernel
theorem dX0_clearPlace_41 : decode cX0_clearPlace 41 = .ok (.iload 4, 2) := by decide +kernel
theorem dX0_clearPlace_43 : decode cX0_clearPlace 43 = .ok (.if_icmp .ge 40, 3) := by decide +kernel
theorem dX0_clearPlace_46 : decode cX0_clearPlace 46 = .ok (.aload_n 0, 1) := by decide +kernel
theorem dX0_clearPlace_47 : decode cX0_clearPlace 47 = .ok (.iload 5, 2) := by decide +kernel
theorem dX0_clearPlace_49 : decode cX0_clearPlace 49 = .ok (.iload 7, 2) := by decide +kernel
theorem dX0_clearPlace_51 : decode cX0_clearPlace 51 = .ok (.aload_n 0, 1) := by decide +kernel
theorem dX0_clearPlace_52 : decode cX0_clearPlace 52 = .ok (.iload 5, 2) := by decide +kernel
theorem dX0_clearPlace_54 : decode cX0_clearPlace 54 = .ok (.iload 7, 2) := by decide +kernel
theorem dX0_clearPlace_56 : decode cX0_clearPlace 56 = .ok (.invokevirtual 52, 3) := by decide +kernel
theorem dX0_clearPlace_59 : decode cX0_clearPlace 59 = .ok (.iload 6, 2) := by decide +kernel
theorem dX0_clearPlace_61 : decode cX0_clearPlace 61 = .ok (.aload_n 0, 1) := by decide +kernel
theorem dX0_clearPlace_62 : decode cX0_clearPlace 62 = .ok (.iload_n 2, 1) := by decide +kernel
theorem dX0_clearPlace_63 : decode cX0_clearPlace 63 = .ok (.iload 7, 2) := by decide +kernel
theorem dX0_clearPlace_65 : decode cX0_clearPlace 65 = .ok (.invokevirtual 52, 3) := by decide +kernel
theorem dX0_clearPlace_68 : decode cX0_clearPlace 68 = .ok (.imul, 1) := by decide +kernel
theorem dX0_clearPlace_69 : decode cX0_clearPlace 69 = .ok (.iadd, 1) := by decide +kernel
theorem dX0_clearPlace_70 : decode cX0_clearPlace 70 = .ok (.sipush 10007, 3) := by decide +kernel
theorem dX0_clearPlace_73 : decode cX0_clearPlace 73 = .ok (.irem, 1) := by decide +kernel
theorem dX0_clearPlace_74 : decode cX0_clearPlace 74 = .ok (.invokevirtual 25, 3) := by decide +kernel
theorem dX0_clearPlace_77 : decode cX0_clearPlace 77 = .ok (.iinc 7 1, 3) := by decide +kernel
theorem dX0_clearPlace_80 : decode cX0_clearPlace 80 = .ok (.goto (-41), 3) := by decide +kernel
theorem dX0_clearPlace_83 : decode cX0_clearPlace 83 = .ok (.iinc 5 1, 3) := by decide +kernel
theorem dX0_clearPlace_86 : decode cX0_clearPlace 86 = .ok (.goto (-83), 3) := by decide +kernel
theorem dX0_clearPlace_89 : decode cX0_clearPlace 89 = .ok (.return_, 1) := by decide +kernel
