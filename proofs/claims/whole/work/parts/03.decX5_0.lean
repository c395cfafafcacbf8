theorem dX5_init_0 : decode cX5_init 0 = .ok (.aload_n 0, 1) := by decide +kernel
theorem dX5_init_1 : decode cX5_init 1 = .ok (.invokespecial 1, 3) := by decide +kernel
theorem dX5_init_4 : decode cX5_init 4 = .ok (.aload_n 0, 1) := by decide +kernel
theorem dX5_init_5 : decode cX5_init 5 = .ok (.bipush 10, 2) := by decide +kernel
theorem dX5_init_7 : decode cX5_init 7 = .ok (.newarray .int, 2) := by decide +kernel
theorem dX5_init_9 : decode cX5_init 9 = .ok (.putfield 7, 3) := by decide +kernel
theorem dX5_init_12 : decode cX5_init 12 = .ok (.aload_n 0, 1) := by decide +kernel
theorem dX5_init_13 : decode cX5_init 13 = .ok (.bipush 10, 2) := by decide +kernel
theorem dX5_init_15 : decode cX5_init 15 = .ok (.newarray .int, 2) := by decide +kernel
theorem dX5_init_17 : decode cX5_init 17 = .ok (.putfield 13, 3) := by decide +kernel
theorem dX5_init_20 : decode cX5_init 20 = .ok (.aload_n 0, 1) := by decide +kernel
theorem dX5_init_21 : decode cX5_init 21 = .ok (.bipush 120, 2) := by decide +kernel
theorem dX5_init_23 : decode cX5_init 23 = .ok (.newarray .int, 2) := by decide +kernel
theorem dX5_init_25 : decode cX5_init 25 = .ok (.putfield 16, 3) := by decide +kernel
theorem dX5_init_28 : decode cX5_init 28 = .ok (.aload_n 0, 1) := by decide +kernel
theorem dX5_init_29 : decode cX5_init 29 = .ok (.bipush 12, 2) := by decide +kernel
theorem dX5_init_31 : decode cX5_init 31 = .ok (.newarray .int, 2) := by decide +kernel
theorem dX5_init_33 : decode cX5_init 33 = .ok (.putfield 19, 3) := by decide +kernel
theorem dX5_init_36 : decode cX5_init 36 = .ok (.aload_n 0, 1) := by decide +kernel
theorem dX5_init_37 : decode cX5_init 37 = .ok (.bipush 9, 2) := by decide +kernel
theorem dX5_init_39 : decode cX5_init 39 = .ok (.newarray .int, 2) := by decide +kernel
theorem dX5_init_41 : decode cX5_init 41 = .ok (.putfield 22, 3) := by decide +kernel
theorem dX5_init_44 : decode cX5_init 44 = .ok (.aload_n 0, 1) := by decide +kernel
theorem dX5_init_45 : decode cX5_init 45 = .ok (.bipush 9, 2) := by decide +kernel
theorem dX5_init_47 : decode cX5_init 47 = .ok (.newarray .int, 2) := by decide +kernel
theorem dX5_init_49 : decode cX5_init 49 = .ok (.putfield 25, 3) := by decide +kernel
theorem dX5_init_52 : decode cX5_init 52 = .ok (.aload_n 0, 1) := by decide +kernel
theorem dX5_init_53 : decode cX5_init 53 = .ok (.bipush 20, 2) := by decide +kernel
theorem dX5_init_55 : decode cX5_init 55 = .ok (.newarray .int, 2) := by decide +kernel
theorem dX5_init_57 : decode cX5_init 57 = .ok (.putfield 28, 3) := by decide +kernel
theorem dX5_init_60 : decode cX5_init 60 = .ok (.aload_n 0, 1) := by decide +kernel
theorem dX5_init_61 : decode cX5_init 61 = .ok (.bipush 10, 2) := by decide +kernel
theorem dX5_init_63 : decode cX5_init 63 = .ok (.newarray .int, 2) := by decide +kernel
theorem dX5_init_65 : decode cX5_init 65 = .ok (.putfield 31, 3) := by decide +kernel
theorem dX5_init_68 : decode cX5_init 68 = .ok (.aload_n 0, 1) := by decide +kernel
theorem dX5_init_69 : decode cX5_init 69 = .ok (.sipush 324, 3) := by decide +kernel
theorem dX5_init_72 : decode cX5_init 72 = .ok (.newarray .int, 2) := by decide +kernel
theorem dX5_init_74 : decode cX5_init 74 = .ok (.putfield 34, 3) := by decide +kernel
theorem dX5_init_77 : decode cX5_init 77 = .ok (.aload_n 0, 1) := by decide +kernel
theorem dX5_init_78 : decode cX5_init 78 = .ok (.bipush 12, 2) := by decide +kernel
theorem dX5_init_80 : decode cX5_init 80 = .ok (.newarray .int, 2) := by decide +kernel
theorem dX5_init_82 : decode cX5_init 82 = .ok (.putfield 37, 3) := by decide +kernel
theorem dX5_init_85 : decode cX5_init 85 = .ok (.aload_n 0, 1) := by decide +kernel
theorem dX5_init_86 : decode cX5_init 86 = .ok (.bipush 12, 2) := by decide +kernel
theorem dX5_init_88 : decode cX5_init 88 = .ok (.newarray .int, 2) := by decide +kernel
theorem dX5_init_90 : decode cX5_init 90 = .ok (.putfield 40, 3) := by decide +kernel
theorem dX5_init_93 : decode cX5_init 93 = .ok (.aload_n 0, 1) := by decide +kernel
theorem dX5_init_94 : decode cX5_init 94 = .ok (.sipush 297, 3) := by decide +kernel
theorem dX5_init_97 : decode cX5_init 97 = .ok (.newarray .int, 2) := by decide +kernel
theorem dX5_init_99 : decode cX5_init 99 = .ok (.putfield 43, 3) := by decide +kernel
theorem dX5_init_102 : decode cX5_init 102 = .ok (.iconst 0, 1) := by decide +kernel
theorem dX5_init_103 : decode cX5_init 103 = .ok (.istore_n 1, 1) := by decide +kernel
theorem dX5_init_104 : decode cX5_init 104 = .ok (.iload_n 1, 1) := by decide +kernel
theorem dX5_init_105 : decode cX5_init 105 = .ok (.bipush 10, 2) := by decide +kernel
theorem dX5_init_107 : decode cX5_init 107 = .ok (.if_icmp .ge 16, 3) := by decide +kernel
theorem dX5_init_110 : decode cX5_init 110 = .ok (.aload_n 0, 1) := by decide +kernel
theorem dX5_init_111 : decode cX5_init 111 = .ok (.getfield 7, 3) := by decide +kernel
theorem dX5_init_114 : decode cX5_init 114 = .ok (.iload_n 1, 1) := by decide +kernel
theorem dX5_init_115 : decode cX5_init 115 = .ok (.iconst (-1), 1) := by decide +kernel
theorem dX5_init_116 : decode cX5_init 116 = .ok (.iastore, 1) := by decide +kernel
theorem dX5_init_117 : decode cX5_init 117 = .ok (.iinc 1 1, 3) := by decide +kernel
theorem dX5_init_120 : decode cX5_init 120 = .ok (.goto (-16), 3) := by decide +kernel
theorem dX5_init_123 : decode cX5_init 123 = .ok (.return_, 1) := by decide +kernel
theorem dX5_in_0 : decode cX5_in 0 = .ok (.lload_n 0, 1) := by decide +kernel
theorem dX5_in_1 : decode cX5_in 1 = .ok (.lload_n 2, 1) := by decide +kernel
theorem dX5_in_2 : decode cX5_in 2 = .ok (.lcmp, 1) := by decide +kernel
theorem dX5_in_3 : decode cX5_in 3 = .ok (.ifCond .lt 14, 3) := by decide +kernel
theorem dX5_in_6 : decode cX5_in 6 = .ok (.lload_n 0, 1) := by decide +kernel
theorem dX5_in_7 : decode cX5_in 7 = .ok (.lload 4, 2) := by decide +kernel
theorem dX5_in_9 : decode cX5_in 9 = .ok (.lcmp, 1) := by decide +kernel
theorem dX5_in_10 : decode cX5_in 10 = .ok (.ifCond .gt 7, 3) := by decide +kernel
theorem dX5_in_13 : decode cX5_in 13 = .ok (.iconst 1, 1) := by decide +kernel
theorem dX5_in_14 : decode cX5_in 14 = .ok (.goto 4, 3) := by decide +kernel
theorem dX5_in_17 : decode cX5_in 17 = .ok (.iconst 0, 1) := by decide +kernel
theorem dX5_in_18 : decode cX5_in 18 = .ok (.ireturn, 1) := by decide +kernel
theorem dX5_mod_0 : decode cX5_mod 0 = .ok (.lload_n 0, 1) := by decide +kernel
theorem dX5_mod_1 : decode cX5_mod 1 = .ok (.ldc2_w 46, 3) := by decide +kernel
theorem dX5_mod_4 : decode cX5_mod 4 = .ok (.lrem, 1) := by decide +kernel
theorem dX5_mod_5 : decode cX5_mod 5 = .ok (.lstore_n 2, 1) := by decide +kernel
theorem dX5_mod_6 : decode cX5_mod 6 = .ok (.lload_n 2, 1) := by decide +kernel
theorem dX5_mod_7 : decode cX5_mod 7 = .ok (.lconst 0, 1) := by decide +kernel
theorem dX5_mod_8 : decode cX5_mod 8 = .ok (.lcmp, 1) := by decide +kernel
theorem dX5_mod_9 : decode cX5_mod 9 = .ok (.ifCond .ge 11, 3) := by decide +kernel
theorem dX5_mod_12 : decode cX5_mod 12 = .ok (.lload_n 2, 1) := by decide +kernel
theorem dX5_mod_13 : decode cX5_mod 13 = .ok (.ldc2_w 46, 3) := by decide +kernel
theorem dX5_mod_16 : decode cX5_mod 16 = .ok (.ladd, 1) := by decide +kernel
theorem dX5_mod_17 : decode cX5_mod 17 = .ok (.goto 4, 3) := by decide +kernel
theorem dX5_mod_20 : decode cX5_mod 20 = .ok (.lload_n 2, 1) := by decide +kernel
theorem dX5_mod_21 : decode cX5_mod 21 = .ok (.l2i, 1) := by decide +kernel
theorem dX5_mod_22 : decode cX5_mod 22 = .ok (.ireturn, 1) := by decide +kernel
theorem dX5_times_0 : decode cX5_times 0 = .ok (.iload_n 0, 1) := by decide +kernel
theorem dX5_times_1 : decode cX5_times 1 = .ok (.i2l, 1) := by decide +kernel
theorem dX5_times_2 : decode cX5_times 2 = .ok (.iload_n 1, 1) := by decide +kernel
theorem dX5_times_3 : decode cX5_times 3 = .ok (.i2l, 1) := by decide +kernel
theorem dX5_times_4 : decode cX5_times 4 = .ok (.lmul, 1) := by decide +kernel
theorem dX5_times_5 : decode cX5_times 5 = .ok (.invokestatic 48, 3) := by decide +kernel
theorem dX5_times_8 : decode cX5_times 8 = .ok (.ireturn, 1) := by decide +kernel
theorem dX5_turned_0 : decode cX5_turned 0 = .ok (.iconst 1, 1) := by decide +kernel
theorem dX5_turned_1 : decode cX5_turned 1 = .ok (.istore_n 1, 1) := by decide +kernel
theorem dX5_turned_2 : decode cX5_turned 2 = .ok (.iload_n 0, 1) := by decide +kernel
theorem dX5_turned_3 : decode cX5_turned 3 = .ok (.istore_n 2, 1) := by decide +kernel
theorem dX5_turned_4 : decode cX5_turned 4 = .ok (.sipush 10005, 3) := by decide +kernel
theorem dX5_turned_7 : decode cX5_turned 7 = .ok (.istore_n 3, 1) := by decide +kernel
theorem dX5_turned_8 : decode cX5_turned 8 = .ok (.iload_n 3, 1) := by decide +kernel
theorem dX5_turned_9 : decode cX5_turned 9 = .ok (.ifCond .le 29, 3) := by decide +kernel
theorem dX5_turned_12 : decode cX5_turned 12 = .ok (.iload_n 3, 1) := by decide +kernel
theorem dX5_turned_13 : decode cX5_turned 13 = .ok (.iconst 2, 1) := by decide +kernel
theorem dX5_turned_14 : decode cX5_turned 14 = .ok (.irem, 1) := by decide +kernel
theorem dX5_turned_15 : decode cX5_turned 15 = .ok (.iconst 1, 1) := by decide +kernel
theorem dX5_turned_16 : decode cX5_turned 16 = .ok (.if_icmp .ne 9, 3) := by decide +kernel
theorem dX5_turned_19 : decode cX5_turned 19 = .ok (.iload_n 1, 1) := by decide +kernel
theorem dX5_turned_20 : decode cX5_turned 20 = .ok (.iload_n 2, 1) := by decide +kernel
theorem dX5_turned_21 : decode cX5_turned 21 = .ok (.invokestatic 52, 3) := by decide +kernel
theorem dX5_turned_24 : decode cX5_turned 24 = .ok (.istore_n 1, 1) := by decide +kernel
theorem dX5_turned_25 : decode cX5_turned 25 = .ok (.iload_n 2, 1) := by decide +kernel
theorem dX5_turned_26 : decode cX5_turned 26 = .ok (.iload_n 2, 1) := by decide +kernel
theorem dX5_turned_27 : decode cX5_turned 27 = .ok (.invokestatic 52, 3) := by decide +kernel
theorem dX5_turned_30 : decode cX5_turned 30 = .ok (.istore_n 2, 1) := by decide +kernel
theorem dX5_turned_31 : decode cX5_turned 31 = .ok (.iload_n 3, 1) := by decide +kernel
theorem dX5_turned_32 : decode cX5_turned 32 = .ok (.iconst 2, 1) := by decide +kernel
theorem dX5_turned_33 : decode cX5_turned 33 = .ok (.idiv, 1) := by decide +kernel
theorem dX5_turned_34 : decode cX5_turned 34 = .ok (.istore_n 3, 1) := by decide +kernel
theorem dX5_turned_35 : decode cX5_turned 35 = .ok (.goto (-27), 3) := by decide +kernel
theorem dX5_turned_38 : decode cX5_turned 38 = .ok (.iload_n 1, 1) := by decide +kernel
theorem dX5_turned_39 : decode cX5_turned 39 = .ok (.ireturn, 1) := by decide +kernel
theorem dX5_over_0 : decode cX5_over 0 = .ok (.iconst 1, 1) := by decide +kernel
theorem dX5_over_1 : decode cX5_over 1 = .ok (.istore_n 2, 1) := by decide +kernel
theorem dX5_over_2 : decode cX5_over 2 = .ok (.iconst 0, 1) := by decide +kernel
theorem dX5_over_3 : decode cX5_over 3 = .ok (.istore_n 3, 1) := by decide +kernel
theorem dX5_over_4 : decode cX5_over 4 = .ok (.iload_n 3, 1) := by decide +kernel
theorem dX5_over_5 : decode cX5_over 5 = .ok (.iload_n 1, 1) := by decide +kernel
theorem dX5_over_6 : decode cX5_over 6 = .ok (.if_icmp .ge 19, 3) := by decide +kernel
theorem dX5_over_9 : decode cX5_over 9 = .ok (.iload_n 2, 1) := by decide +kernel
theorem dX5_over_10 : decode cX5_over 10 = .ok (.iload_n 0, 1) := by decide +kernel
theorem dX5_over_11 : decode cX5_over 11 = .ok (.iload_n 3, 1) := by decide +kernel
theorem dX5_over_12 : decode cX5_over 12 = .ok (.isub, 1) := by decide +kernel
theorem dX5_over_13 : decode cX5_over 13 = .ok (.imul, 1) := by decide +kernel
theorem dX5_over_14 : decode cX5_over 14 = .ok (.iload_n 3, 1) := by decide +kernel
theorem dX5_over_15 : decode cX5_over 15 = .ok (.iconst 1, 1) := by decide +kernel
theorem dX5_over_16 : decode cX5_over 16 = .ok (.iadd, 1) := by decide +kernel
theorem dX5_over_17 : decode cX5_over 17 = .ok (.idiv, 1) := by decide +kernel
theorem dX5_over_18 : decode cX5_over 18 = .ok (.istore_n 2, 1) := by decide +kernel
theorem dX5_over_19 : decode cX5_over 19 = .ok (.iinc 3 1, 3) := by decide +kernel
theorem dX5_over_22 : decode cX5_over 22 = .ok (.goto (-18), 3) := by decide +kernel
theorem dX5_over_25 : decode cX5_over 25 = .ok (.iload_n 2, 1) := by decide +kernel
theorem dX5_over_26 : decode cX5_over 26 = .ok (.ireturn, 1) := by decide +kernel
theorem dX5_factorial_0 : decode cX5_factorial 0 = .ok (.iconst 1, 1) := by decide +kernel
theorem dX5_factorial_1 : decode cX5_factorial 1 = .ok (.istore_n 1, 1) := by decide +kernel
theorem dX5_factorial_2 : decode cX5_factorial 2 = .ok (.iconst 2, 1) := by decide +kernel
theorem dX5_factorial_3 : decode cX5_factorial 3 = .ok (.istore_n 2, 1) := by decide +kernel
theorem dX5_factorial_4 : decode cX5_factorial 4 = .ok (.iload_n 2, 1) := by decide +kernel
theorem dX5_factorial_5 : decode cX5_factorial 5 = .ok (.iload_n 0, 1) := by decide +kernel
theorem dX5_factorial_6 : decode cX5_factorial 6 = .ok (.if_icmp .gt 15, 3) := by decide +kernel
theorem dX5_factorial_9 : decode cX5_factorial 9 = .ok (.iload_n 1, 1) := by decide +kernel
theorem dX5_factorial_10 : decode cX5_factorial 10 = .ok (.iload_n 2, 1) := by decide +kernel
theorem dX5_factorial_11 : decode cX5_factorial 11 = .ok (.invokestatic 52, 3) := by decide +kernel
theorem dX5_factorial_14 : decode cX5_factorial 14 = .ok (.istore_n 1, 1) := by decide +kernel
theorem dX5_factorial_15 : decode cX5_factorial 15 = .ok (.iinc 2 1, 3) := by decide +kernel
theorem dX5_factorial_18 : decode cX5_factorial 18 = .ok (.goto (-14), 3) := by decide +kernel
theorem dX5_factorial_21 : decode cX5_factorial 21 = .ok (.iload_n 1, 1) := by decide +kernel
theorem dX5_factorial_22 : decode cX5_factorial 22 = .ok (.ireturn, 1) := by decide +kernel
theorem dX5_met_0 : decode cX5_met 0 = .ok (.aload_n 0, 1) := by decide +kernel
theorem dX5_met_1 : decode cX5_met 1 = .ok (.iload_n 1, 1) := by decide +kernel
theorem dX5_met_2 : decode cX5_met 2 = .ok (.putfield 56, 3) := by decide +kernel
theorem dX5_met_5 : decode cX5_met 5 = .ok (.bipush (-10), 2) := by decide +kernel
theorem dX5_met_7 : decode cX5_met 7 = .ok (.iload_n 1, 1) := by decide +kernel
theorem dX5_met_8 : decode cX5_met 8 = .ok (.isub, 1) := by decide +kernel
theorem dX5_met_9 : decode cX5_met 9 = .ok (.ireturn, 1) := by decide +kernel
theorem dX5_isSheet_0 : decode cX5_isSheet 0 = .ok (.iload_n 0, 1) := by decide +kernel
theorem dX5_isSheet_1 : decode cX5_isSheet 1 = .ok (.i2l, 1) := by decide +kernel
theorem dX5_isSheet_2 : decode cX5_isSheet 2 = .ok (.lconst 0, 1) := by decide +kernel
theorem dX5_isSheet_3 : decode cX5_isSheet 3 = .ok (.ldc2_w 60, 3) := by decide +kernel
theorem dX5_isSheet_6 : decode cX5_isSheet 6 = .ok (.invokestatic 62, 3) := by decide +kernel
theorem dX5_isSheet_9 : decode cX5_isSheet 9 = .ok (.ireturn, 1) := by decide +kernel
theorem dX5_sheet_0 : decode cX5_sheet 0 = .ok (.iload_n 1, 1) := by decide +kernel
theorem dX5_sheet_1 : decode cX5_sheet 1 = .ok (.invokestatic 66, 3) := by decide +kernel
theorem dX5_sheet_4 : decode cX5_sheet 4 = .ok (.ifCond .eq 21, 3) := by decide +kernel
theorem dX5_sheet_7 : decode cX5_sheet 7 = .ok (.iload_n 2, 1) := by decide +kernel
theorem dX5_sheet_8 : decode cX5_sheet 8 = .ok (.i2l, 1) := by decide +kernel
theorem dX5_sheet_9 : decode cX5_sheet 9 = .ok (.lconst 0, 1) := by decide +kernel
theorem dX5_sheet_10 : decode cX5_sheet 10 = .ok (.ldc2_w 70, 3) := by decide +kernel
theorem dX5_sheet_13 : decode cX5_sheet 13 = .ok (.invokestatic 62, 3) := by decide +kernel
theorem dX5_sheet_16 : decode cX5_sheet 16 = .ok (.ifCond .eq 9, 3) := by decide +kernel
theorem dX5_sheet_19 : decode cX5_sheet 19 = .ok (.iload_n 3, 1) := by decide +kernel
theorem dX5_sheet_20 : decode cX5_sheet 20 = .ok (.bipush 12, 2) := by decide +kernel
theorem dX5_sheet_22 : decode cX5_sheet 22 = .ok (.if_icmp .le 6, 3) := by decide +kernel
theorem dX5_sheet_25 : decode cX5_sheet 25 = .ok (.bipush (-2), 2) := by decide +kernel
theorem dX5_sheet_27 : decode cX5_sheet 27 = .ok (.ireturn, 1) := by decide +kernel
theorem dX5_sheet_28 : decode cX5_sheet 28 = .ok (.iload_n 3, 1) := by decide +kernel
theorem dX5_sheet_29 : decode cX5_sheet 29 = .ok (.ifCond .ge 9, 3) := by decide +kernel
theorem dX5_sheet_32 : decode cX5_sheet 32 = .ok (.aload_n 0, 1) := by decide +kernel
theorem dX5_sheet_33 : decode cX5_sheet 33 = .ok (.iconst 5, 1) := by decide +kernel
theorem dX5_sheet_34 : decode cX5_sheet 34 = .ok (.invokevirtual 72, 3) := by decide +kernel
theorem dX5_sheet_37 : decode cX5_sheet 37 = .ok (.ireturn, 1) := by decide +kernel
theorem dX5_sheet_38 : decode cX5_sheet 38 = .ok (.aload_n 0, 1) := by decide +kernel
theorem dX5_sheet_39 : decode cX5_sheet 39 = .ok (.getfield 7, 3) := by decide +kernel
theorem dX5_sheet_42 : decode cX5_sheet 42 = .ok (.iload_n 1, 1) := by decide +kernel
theorem dX5_sheet_43 : decode cX5_sheet 43 = .ok (.iload_n 2, 1) := by decide +kernel
theorem dX5_sheet_44 : decode cX5_sheet 44 = .ok (.iastore, 1) := by decide +kernel
theorem dX5_sheet_45 : decode cX5_sheet 45 = .ok (.aload_n 0, 1) := by decide +kernel
theorem dX5_sheet_46 : decode cX5_sheet 46 = .ok (.getfield 13, 3) := by decide +kernel
theorem dX5_sheet_49 : decode cX5_sheet 49 = .ok (.iload_n 1, 1) := by decide +kernel
theorem dX5_sheet_50 : decode cX5_sheet 50 = .ok (.iload_n 3, 1) := by decide +kernel
theorem dX5_sheet_51 : decode cX5_sheet 51 = .ok (.iastore, 1) := by decide +kernel
theorem dX5_sheet_52 : decode cX5_sheet 52 = .ok (.iconst 0, 1) := by decide +kernel
theorem dX5_sheet_53 : decode cX5_sheet 53 = .ok (.istore 4, 2) := by decide +kernel
theorem dX5_sheet_55 : decode cX5_sheet 55 = .ok (.iload 4, 2) := by decide +kernel
theorem dX5_sheet_57 : decode cX5_sheet 57 = .ok (.iload_n 3, 1) := by decide +kernel
theorem dX5_sheet_58 : decode cX5_sheet 58 = .ok (.if_icmp .ge 22, 3) := by decide +kernel
theorem dX5_sheet_61 : decode cX5_sheet 61 = .ok (.aload_n 0, 1) := by decide +kernel
theorem dX5_sheet_62 : decode cX5_sheet 62 = .ok (.getfield 16, 3) := by decide +kernel
theorem dX5_sheet_65 : decode cX5_sheet 65 = .ok (.bipush 12, 2) := by decide +kernel
theorem dX5_sheet_67 : decode cX5_sheet 67 = .ok (.iload_n 1, 1) := by decide +kernel
theorem dX5_sheet_68 : decode cX5_sheet 68 = .ok (.imul, 1) := by decide +kernel
theorem dX5_sheet_69 : decode cX5_sheet 69 = .ok (.iload 4, 2) := by decide +kernel
theorem dX5_sheet_71 : decode cX5_sheet 71 = .ok (.iadd, 1) := by decide +kernel
theorem dX5_sheet_72 : decode cX5_sheet 72 = .ok (.iconst 0, 1) := by decide +kernel
theorem dX5_sheet_73 : decode cX5_sheet 73 = .ok (.iastore, 1) := by decide +kernel
theorem dX5_sheet_74 : decode cX5_sheet 74 = .ok (.iinc 4 1, 3) := by decide +kernel
theorem dX5_sheet_77 : decode cX5_sheet 77 = .ok (.goto (-22), 3) := by decide +kernel
theorem dX5_sheet_80 : decode cX5_sheet 80 = .ok (.iload_n 3, 1) := by decide +kernel
theorem dX5_sheet_81 : decode cX5_sheet 81 = .ok (.ireturn, 1) := by decide +kernel
theorem dX5_lose_0 : decode cX5_lose 0 = .ok (.iload_n 1, 1) := by decide +kernel
theorem dX5_lose_1 : decode cX5_lose 1 = .ok (.invokestatic 66, 3) := by decide +kernel
theorem dX5_lose_4 : decode cX5_lose 4 = .ok (.ifCond .ne 6, 3) := by decide +kernel
theorem dX5_lose_7 : decode cX5_lose 7 = .ok (.bipush (-2), 2) := by decide +kernel
theorem dX5_lose_9 : decode cX5_lose 9 = .ok (.ireturn, 1) := by decide +kernel
theorem dX5_lose_10 : decode cX5_lose 10 = .ok (.aload_n 0, 1) := by decide +kernel
theorem dX5_lose_11 : decode cX5_lose 11 = .ok (.getfield 7, 3) := by decide +kernel
theorem dX5_lose_14 : decode cX5_lose 14 = .ok (.iload_n 1, 1) := by decide +kernel
theorem dX5_lose_15 : decode cX5_lose 15 = .ok (.iaload, 1) := by decide +kernel
theorem dX5_lose_16 : decode cX5_lose 16 = .ok (.ifCond .ge 9, 3) := by decide +kernel
theorem dX5_lose_19 : decode cX5_lose 19 = .ok (.aload_n 0, 1) := by decide +kernel
theorem dX5_lose_20 : decode cX5_lose 20 = .ok (.iconst 1, 1) := by decide +kernel
theorem dX5_lose_21 : decode cX5_lose 21 = .ok (.invokevirtual 72, 3) := by decide +kernel
theorem dX5_lose_24 : decode cX5_lose 24 = .ok (.ireturn, 1) := by decide +kernel
theorem dX5_lose_25 : decode cX5_lose 25 = .ok (.aload_n 0, 1) := by decide +kernel
theorem dX5_lose_26 : decode cX5_lose 26 = .ok (.getfield 7, 3) := by decide +kernel
theorem dX5_lose_29 : decode cX5_lose 29 = .ok (.iload_n 1, 1) := by decide +kernel
theorem dX5_lose_30 : decode cX5_lose 30 = .ok (.iconst (-1), 1) := by decide +kernel
theorem dX5_lose_31 : decode cX5_lose 31 = .ok (.iastore, 1) := by decide +kernel
theorem dX5_lose_32 : decode cX5_lose 32 = .ok (.aload_n 0, 1) := by decide +kernel
theorem dX5_lose_33 : decode cX5_lose 33 = .ok (.getfield 13, 3) := by decide +kernel
theorem dX5_lose_36 : decode cX5_lose 36 = .ok (.iload_n 1, 1) := by decide +kernel
theorem dX5_lose_37 : decode cX5_lose 37 = .ok (.iaload, 1) := by decide +kernel
theorem dX5_lose_38 : decode cX5_lose 38 = .ok (.ireturn, 1) := by decide +kernel
theorem dX5_lacks_0 : decode cX5_lacks 0 = .ok (.aload_n 0, 1) := by decide +kernel
theorem dX5_lacks_1 : decode cX5_lacks 1 = .ok (.getfield 7, 3) := by decide +kernel
theorem dX5_lacks_4 : decode cX5_lacks 4 = .ok (.iload_n 1, 1) := by decide +kernel
theorem dX5_lacks_5 : decode cX5_lacks 5 = .ok (.iaload, 1) := by decide +kernel
theorem dX5_lacks_6 : decode cX5_lacks 6 = .ok (.ifCond .ge 9, 3) := by decide +kernel
theorem dX5_lacks_9 : decode cX5_lacks 9 = .ok (.aload_n 0, 1) := by decide +kernel
theorem dX5_lacks_10 : decode cX5_lacks 10 = .ok (.iconst 1, 1) := by decide +kernel
theorem dX5_lacks_11 : decode cX5_lacks 11 = .ok (.invokevirtual 72, 3) := by decide +kernel
theorem dX5_lacks_14 : decode cX5_lacks 14 = .ok (.ireturn, 1) := by decide +kernel
theorem dX5_lacks_15 : decode cX5_lacks 15 = .ok (.aload_n 0, 1) := by decide +kernel
theorem dX5_lacks_16 : decode cX5_lacks 16 = .ok (.getfield 7, 3) := by decide +kernel
theorem dX5_lacks_19 : decode cX5_lacks 19 = .ok (.iload_n 1, 1) := by decide +kernel
theorem dX5_lacks_20 : decode cX5_lacks 20 = .ok (.iaload, 1) := by decide +kernel
theorem dX5_lacks_21 : decode cX5_lacks 21 = .ok (.iload_n 2, 1) := by decide +kernel
theorem dX5_lacks_22 : decode cX5_lacks 22 = .ok (.if_icmp .eq 9, 3) := by decide +kernel
theorem dX5_lacks_25 : decode cX5_lacks 25 = .ok (.aload_n 0, 1) := by decide +kernel
theorem dX5_lacks_26 : decode cX5_lacks 26 = .ok (.iconst 3, 1) := by decide +kernel
theorem dX5_lacks_27 : decode cX5_lacks 27 = .ok (.invokevirtual 72, 3) := by decide +kernel
theorem dX5_lacks_30 : decode cX5_lacks 30 = .ok (.ireturn, 1) := by decide +kernel
theorem dX5_lacks_31 : decode cX5_lacks 31 = .ok (.iload_n 3, 1) := by decide +kernel
theorem dX5_lacks_32 : decode cX5_lacks 32 = .ok (.i2l, 1) := by decide +kernel
theorem dX5_lacks_33 : decode cX5_lacks 33 = .ok (.lconst 0, 1) := by decide +kernel
theorem dX5_lacks_34 : decode cX5_lacks 34 = .ok (.aload_n 0, 1) := by decide +kernel
theorem dX5_lacks_35 : decode cX5_lacks 35 = .ok (.getfield 13, 3) := by decide +kernel
theorem dX5_lacks_38 : decode cX5_lacks 38 = .ok (.iload_n 1, 1) := by decide +kernel
theorem dX5_lacks_39 : decode cX5_lacks 39 = .ok (.iaload, 1) := by decide +kernel
theorem dX5_lacks_40 : decode cX5_lacks 40 = .ok (.iconst 1, 1) := by decide +kernel
theorem dX5_lacks_41 : decode cX5_lacks 41 = .ok (.isub, 1) := by decide +kernel
theorem dX5_lacks_42 : decode cX5_lacks 42 = .ok (.i2l, 1) := by decide +kernel
theorem dX5_lacks_43 : decode cX5_lacks 43 = .ok (.invokestatic 62, 3) := by decide +kernel
theorem dX5_lacks_46 : decode cX5_lacks 46 = .ok (.ifCond .eq 7, 3) := by decide +kernel
theorem dX5_lacks_49 : decode cX5_lacks 49 = .ok (.iconst 0, 1) := by decide +kernel
theorem dX5_lacks_50 : decode cX5_lacks 50 = .ok (.goto 8, 3) := by decide +kernel
theorem dX5_lacks_53 : decode cX5_lacks 53 = .ok (.aload_n 0, 1) := by decide +kernel
theorem dX5_lacks_54 : decode cX5_lacks 54 = .ok (.iconst 2, 1) := by decide +kernel
theorem dX5_lacks_55 : decode cX5_lacks 55 = .ok (.invokevirtual 72, 3) := by decide +kernel
theorem dX5_lacks_58 : decode cX5_lacks 58 = .ok (.ireturn, 1) := by decide +kernel
theorem dX5_put_0 : decode cX5_put 0 = .ok (.iload_n 1, 1) := by decide +kernel
theorem dX5_put_1 : decode cX5_put 1 = .ok (.invokestatic 66, 3) := by decide +kernel
theorem dX5_put_4 : decode cX5_put 4 = .ok (.ifCond .eq 15, 3) := by decide +kernel
theorem dX5_put_7 : decode cX5_put 7 = .ok (.iload_n 2, 1) := by decide +kernel
theorem dX5_put_8 : decode cX5_put 8 = .ok (.i2l, 1) := by decide +kernel
theorem dX5_put_9 : decode cX5_put 9 = .ok (.lconst 0, 1) := by decide +kernel
theorem dX5_put_10 : decode cX5_put 10 = .ok (.ldc2_w 70, 3) := by decide +kernel
theorem dX5_put_13 : decode cX5_put 13 = .ok (.invokestatic 62, 3) := by decide +kernel
theorem dX5_put_16 : decode cX5_put 16 = .ok (.ifCond .ne 6, 3) := by decide +kernel
theorem dX5_put_19 : decode cX5_put 19 = .ok (.bipush (-2), 2) := by decide +kernel
theorem dX5_put_21 : decode cX5_put 21 = .ok (.ireturn, 1) := by decide +kernel
theorem dX5_put_22 : decode cX5_put 22 = .ok (.aload_n 0, 1) := by decide +kernel
theorem dX5_put_23 : decode cX5_put 23 = .ok (.iload_n 1, 1) := by decide +kernel
theorem dX5_put_24 : decode cX5_put 24 = .ok (.iload_n 2, 1) := by decide +kernel
theorem dX5_put_25 : decode cX5_put 25 = .ok (.iload_n 3, 1) := by decide +kernel
theorem dX5_put_26 : decode cX5_put 26 = .ok (.invokevirtual 76, 3) := by decide +kernel
theorem dX5_put_29 : decode cX5_put 29 = .ok (.istore 5, 2) := by decide +kernel
theorem dX5_put_31 : decode cX5_put 31 = .ok (.iload 5, 2) := by decide +kernel
theorem dX5_put_33 : decode cX5_put 33 = .ok (.ifCond .eq 6, 3) := by decide +kernel
theorem dX5_put_36 : decode cX5_put 36 = .ok (.iload 5, 2) := by decide +kernel
theorem dX5_put_38 : decode cX5_put 38 = .ok (.ireturn, 1) := by decide +kernel
theorem dX5_put_39 : decode cX5_put 39 = .ok (.aload_n 0, 1) := by decide +kernel
theorem dX5_put_40 : decode cX5_put 40 = .ok (.getfield 16, 3) := by decide +kernel
theorem dX5_put_43 : decode cX5_put 43 = .ok (.bipush 12, 2) := by decide +kernel
theorem dX5_put_45 : decode cX5_put 45 = .ok (.iload_n 1, 1) := by decide +kernel
theorem dX5_put_46 : decode cX5_put 46 = .ok (.imul, 1) := by decide +kernel
theorem dX5_put_47 : decode cX5_put 47 = .ok (.iload_n 3, 1) := by decide +kernel
theorem dX5_put_48 : decode cX5_put 48 = .ok (.iadd, 1) := by decide +kernel
theorem dX5_put_49 : decode cX5_put 49 = .ok (.iload_n 2, 1) := by decide +kernel
theorem dX5_put_50 : decode cX5_put 50 = .ok (.ifCond .ne 9, 3) := by decide +kernel
theorem dX5_put_53 : decode cX5_put 53 = .ok (.iload 4, 2) := by decide +kernel
theorem dX5_put_55 : decode cX5_put 55 = .ok (.i2b, 1) := by decide +kernel
theorem dX5_put_56 : decode cX5_put 56 = .ok (.goto 16, 3) := by decide +kernel
theorem dX5_put_59 : decode cX5_put 59 = .ok (.iload_n 2, 1) := by decide +kernel
theorem dX5_put_60 : decode cX5_put 60 = .ok (.iconst 1, 1) := by decide +kernel
theorem dX5_put_61 : decode cX5_put 61 = .ok (.if_icmp .ne 9, 3) := by decide +kernel
theorem dX5_put_64 : decode cX5_put 64 = .ok (.iload 4, 2) := by decide +kernel
theorem dX5_put_66 : decode cX5_put 66 = .ok (.i2s, 1) := by decide +kernel
theorem dX5_put_67 : decode cX5_put 67 = .ok (.goto 5, 3) := by decide +kernel
theorem dX5_put_70 : decode cX5_put 70 = .ok (.iload 4, 2) := by decide +kernel
theorem dX5_put_72 : decode cX5_put 72 = .ok (.iastore, 1) := by decide +kernel
theorem dX5_put_73 : decode cX5_put 73 = .ok (.iconst 1, 1) := by decide +kernel
theorem dX5_put_74 : decode cX5_put 74 = .ok (.ireturn, 1) := by decide +kernel
theorem dX5_get_0 : decode cX5_get 0 = .ok (.iload_n 1, 1) := by decide +kernel
theorem dX5_get_1 : decode cX5_get 1 = .ok (.invokestatic 66, 3) := by decide +kernel
theorem dX5_get_4 : decode cX5_get 4 = .ok (.ifCond .eq 25, 3) := by decide +kernel
theorem dX5_get_7 : decode cX5_get 7 = .ok (.iload_n 2, 1) := by decide +kernel
theorem dX5_get_8 : decode cX5_get 8 = .ok (.i2l, 1) := by decide +kernel
theorem dX5_get_9 : decode cX5_get 9 = .ok (.lconst 0, 1) := by decide +kernel
theorem dX5_get_10 : decode cX5_get 10 = .ok (.ldc2_w 70, 3) := by decide +kernel
theorem dX5_get_13 : decode cX5_get 13 = .ok (.invokestatic 62, 3) := by decide +kernel
theorem dX5_get_16 : decode cX5_get 16 = .ok (.ifCond .eq 13, 3) := by decide +kernel
theorem dX5_get_19 : decode cX5_get 19 = .ok (.aload_n 0, 1) := by decide +kernel
theorem dX5_get_20 : decode cX5_get 20 = .ok (.iload_n 1, 1) := by decide +kernel
theorem dX5_get_21 : decode cX5_get 21 = .ok (.iload_n 2, 1) := by decide +kernel
theorem dX5_get_22 : decode cX5_get 22 = .ok (.iload_n 3, 1) := by decide +kernel
theorem dX5_get_23 : decode cX5_get 23 = .ok (.invokevirtual 76, 3) := by decide +kernel
theorem dX5_get_26 : decode cX5_get 26 = .ok (.ifCond .eq 6, 3) := by decide +kernel
theorem dX5_get_29 : decode cX5_get 29 = .ok (.ldc 80, 2) := by decide +kernel
theorem dX5_get_31 : decode cX5_get 31 = .ok (.ireturn, 1) := by decide +kernel
theorem dX5_get_32 : decode cX5_get 32 = .ok (.aload_n 0, 1) := by decide +kernel
theorem dX5_get_33 : decode cX5_get 33 = .ok (.getfield 16, 3) := by decide +kernel
theorem dX5_get_36 : decode cX5_get 36 = .ok (.bipush 12, 2) := by decide +kernel
theorem dX5_get_38 : decode cX5_get 38 = .ok (.iload_n 1, 1) := by decide +kernel
theorem dX5_get_39 : decode cX5_get 39 = .ok (.imul, 1) := by decide +kernel
theorem dX5_get_40 : decode cX5_get 40 = .ok (.iload_n 3, 1) := by decide +kernel
theorem dX5_get_41 : decode cX5_get 41 = .ok (.iadd, 1) := by decide +kernel
theorem dX5_get_42 : decode cX5_get 42 = .ok (.iaload, 1) := by decide +kernel
theorem dX5_get_43 : decode cX5_get 43 = .ok (.ireturn, 1) := by decide +kernel
theorem dX5_copy_0 : decode cX5_copy 0 = .ok (.iload_n 1, 1) := by decide +kernel
theorem dX5_copy_1 : decode cX5_copy 1 = .ok (.invokestatic 66, 3) := by decide +kernel
theorem dX5_copy_4 : decode cX5_copy 4 = .ok (.ifCond .eq 10, 3) := by decide +kernel
theorem dX5_copy_7 : decode cX5_copy 7 = .ok (.iload_n 3, 1) := by decide +kernel
theorem dX5_copy_8 : decode cX5_copy 8 = .ok (.invokestatic 66, 3) := by decide +kernel
theorem dX5_copy_11 : decode cX5_copy 11 = .ok (.ifCond .ne 6, 3) := by decide +kernel
theorem dX5_copy_14 : decode cX5_copy 14 = .ok (.bipush (-2), 2) := by decide +kernel
theorem dX5_copy_16 : decode cX5_copy 16 = .ok (.ireturn, 1) := by decide +kernel
theorem dX5_copy_17 : decode cX5_copy 17 = .ok (.aload_n 0, 1) := by decide +kernel
theorem dX5_copy_18 : decode cX5_copy 18 = .ok (.getfield 7, 3) := by decide +kernel
theorem dX5_copy_21 : decode cX5_copy 21 = .ok (.iload_n 1, 1) := by decide +kernel
theorem dX5_copy_22 : decode cX5_copy 22 = .ok (.iaload, 1) := by decide +kernel
theorem dX5_copy_23 : decode cX5_copy 23 = .ok (.ifCond .lt 12, 3) := by decide +kernel
theorem dX5_copy_26 : decode cX5_copy 26 = .ok (.aload_n 0, 1) := by decide +kernel
theorem dX5_copy_27 : decode cX5_copy 27 = .ok (.getfield 7, 3) := by decide +kernel
theorem dX5_copy_30 : decode cX5_copy 30 = .ok (.iload_n 3, 1) := by decide +kernel
theorem dX5_copy_31 : decode cX5_copy 31 = .ok (.iaload, 1) := by decide +kernel
theorem dX5_copy_32 : decode cX5_copy 32 = .ok (.ifCond .ge 9, 3) := by decide +kernel
theorem dX5_copy_35 : decode cX5_copy 35 = .ok (.aload_n 0, 1) := by decide +kernel
theorem dX5_copy_36 : decode cX5_copy 36 = .ok (.iconst 1, 1) := by decide +kernel
theorem dX5_copy_37 : decode cX5_copy 37 = .ok (.invokevirtual 72, 3) := by decide +kernel
theorem dX5_copy_40 : decode cX5_copy 40 = .ok (.ireturn, 1) := by decide +kernel
theorem dX5_copy_41 : decode cX5_copy 41 = .ok (.aload_n 0, 1) := by decide +kernel
theorem dX5_copy_42 : decode cX5_copy 42 = .ok (.getfield 7, 3) := by decide +kernel
theorem dX5_copy_45 : decode cX5_copy 45 = .ok (.iload_n 1, 1) := by decide +kernel
theorem dX5_copy_46 : decode cX5_copy 46 = .ok (.iaload, 1) := by decide +kernel
theorem dX5_copy_47 : decode cX5_copy 47 = .ok (.aload_n 0, 1) := by decide +kernel
theorem dX5_copy_48 : decode cX5_copy 48 = .ok (.getfield 7, 3) := by decide +kernel
theorem dX5_copy_51 : decode cX5_copy 51 = .ok (.iload_n 3, 1) := by decide +kernel
theorem dX5_copy_52 : decode cX5_copy 52 = .ok (.iaload, 1) := by decide +kernel
theorem dX5_copy_53 : decode cX5_copy 53 = .ok (.if_icmp .eq 9, 3) := by decide +kernel
theorem dX5_copy_56 : decode cX5_copy 56 = .ok (.aload_n 0, 1) := by decide +kernel
theorem dX5_copy_57 : decode cX5_copy 57 = .ok (.iconst 4, 1) := by decide +kernel
theorem dX5_copy_58 : decode cX5_copy 58 = .ok (.invokevirtual 72, 3) := by decide +kernel
theorem dX5_copy_61 : decode cX5_copy 61 = .ok (.ireturn, 1) := by decide +kernel
theorem dX5_copy_62 : decode cX5_copy 62 = .ok (.iload_n 2, 1) := by decide +kernel
theorem dX5_copy_63 : decode cX5_copy 63 = .ok (.ifCond .lt 48, 3) := by decide +kernel
theorem dX5_copy_66 : decode cX5_copy 66 = .ok (.iload 4, 2) := by decide +kernel
theorem dX5_copy_68 : decode cX5_copy 68 = .ok (.ifCond .lt 43, 3) := by decide +kernel
theorem dX5_copy_71 : decode cX5_copy 71 = .ok (.iload 5, 2) := by decide +kernel
theorem dX5_copy_73 : decode cX5_copy 73 = .ok (.ifCond .lt 38, 3) := by decide +kernel
theorem dX5_copy_76 : decode cX5_copy 76 = .ok (.iload_n 2, 1) := by decide +kernel
theorem dX5_copy_77 : decode cX5_copy 77 = .ok (.i2l, 1) := by decide +kernel
theorem dX5_copy_78 : decode cX5_copy 78 = .ok (.iload 5, 2) := by decide +kernel
theorem dX5_copy_80 : decode cX5_copy 80 = .ok (.i2l, 1) := by decide +kernel
theorem dX5_copy_81 : decode cX5_copy 81 = .ok (.ladd, 1) := by decide +kernel
theorem dX5_copy_82 : decode cX5_copy 82 = .ok (.aload_n 0, 1) := by decide +kernel
theorem dX5_copy_83 : decode cX5_copy 83 = .ok (.getfield 13, 3) := by decide +kernel
theorem dX5_copy_86 : decode cX5_copy 86 = .ok (.iload_n 1, 1) := by decide +kernel
theorem dX5_copy_87 : decode cX5_copy 87 = .ok (.iaload, 1) := by decide +kernel
theorem dX5_copy_88 : decode cX5_copy 88 = .ok (.i2l, 1) := by decide +kernel
theorem dX5_copy_89 : decode cX5_copy 89 = .ok (.lcmp, 1) := by decide +kernel
theorem dX5_copy_90 : decode cX5_copy 90 = .ok (.ifCond .gt 21, 3) := by decide +kernel
theorem dX5_copy_93 : decode cX5_copy 93 = .ok (.iload 4, 2) := by decide +kernel
theorem dX5_copy_95 : decode cX5_copy 95 = .ok (.i2l, 1) := by decide +kernel
theorem dX5_copy_96 : decode cX5_copy 96 = .ok (.iload 5, 2) := by decide +kernel
theorem dX5_copy_98 : decode cX5_copy 98 = .ok (.i2l, 1) := by decide +kernel
theorem dX5_copy_99 : decode cX5_copy 99 = .ok (.ladd, 1) := by decide +kernel
theorem dX5_copy_100 : decode cX5_copy 100 = .ok (.aload_n 0, 1) := by decide +kernel
theorem dX5_copy_101 : decode cX5_copy 101 = .ok (.getfield 13, 3) := by decide +kernel
theorem dX5_copy_104 : decode cX5_copy 104 = .ok (.iload_n 3, 1) := by decide +kernel
theorem dX5_copy_105 : decode cX5_copy 105 = .ok (.iaload, 1) := by decide +kernel
theorem dX5_copy_106 : decode cX5_copy 106 = .ok (.i2l, 1) := by decide +kernel
theorem dX5_copy_107 : decode cX5_copy 107 = .ok (.lcmp, 1) := by decide +kernel
theorem dX5_copy_108 : decode cX5_copy 108 = .ok (.ifCond .le 9, 3) := by decide +kernel
theorem dX5_copy_111 : decode cX5_copy 111 = .ok (.aload_n 0, 1) := by decide +kernel
theorem dX5_copy_112 : decode cX5_copy 112 = .ok (.iconst 2, 1) := by decide +kernel
theorem dX5_copy_113 : decode cX5_copy 113 = .ok (.invokevirtual 72, 3) := by decide +kernel
theorem dX5_copy_116 : decode cX5_copy 116 = .ok (.ireturn, 1) := by decide +kernel
theorem dX5_copy_117 : decode cX5_copy 117 = .ok (.iconst 0, 1) := by decide +kernel
theorem dX5_copy_118 : decode cX5_copy 118 = .ok (.istore 6, 2) := by decide +kernel
theorem dX5_copy_120 : decode cX5_copy 120 = .ok (.iload 6, 2) := by decide +kernel
theorem dX5_copy_122 : decode cX5_copy 122 = .ok (.iload 5, 2) := by decide +kernel
theorem dX5_copy_124 : decode cX5_copy 124 = .ok (.if_icmp .ge 30, 3) := by decide +kernel
theorem dX5_copy_127 : decode cX5_copy 127 = .ok (.aload_n 0, 1) := by decide +kernel
theorem dX5_copy_128 : decode cX5_copy 128 = .ok (.getfield 19, 3) := by decide +kernel
theorem dX5_copy_131 : decode cX5_copy 131 = .ok (.iload 6, 2) := by decide +kernel
theorem dX5_copy_133 : decode cX5_copy 133 = .ok (.aload_n 0, 1) := by decide +kernel
theorem dX5_copy_134 : decode cX5_copy 134 = .ok (.getfield 16, 3) := by decide +kernel
theorem dX5_copy_137 : decode cX5_copy 137 = .ok (.bipush 12, 2) := by decide +kernel
theorem dX5_copy_139 : decode cX5_copy 139 = .ok (.iload_n 1, 1) := by decide +kernel
theorem dX5_copy_140 : decode cX5_copy 140 = .ok (.imul, 1) := by decide +kernel
theorem dX5_copy_141 : decode cX5_copy 141 = .ok (.iload_n 2, 1) := by decide +kernel
theorem dX5_copy_142 : decode cX5_copy 142 = .ok (.iadd, 1) := by decide +kernel
theorem dX5_copy_143 : decode cX5_copy 143 = .ok (.iload 6, 2) := by decide +kernel
theorem dX5_copy_145 : decode cX5_copy 145 = .ok (.iadd, 1) := by decide +kernel
theorem dX5_copy_146 : decode cX5_copy 146 = .ok (.iaload, 1) := by decide +kernel
theorem dX5_copy_147 : decode cX5_copy 147 = .ok (.iastore, 1) := by decide +kernel
theorem dX5_copy_148 : decode cX5_copy 148 = .ok (.iinc 6 1, 3) := by decide +kernel
theorem dX5_copy_151 : decode cX5_copy 151 = .ok (.goto (-31), 3) := by decide +kernel
theorem dX5_copy_154 : decode cX5_copy 154 = .ok (.iconst 0, 1) := by decide +kernel
theorem dX5_copy_155 : decode cX5_copy 155 = .ok (.istore 6, 2) := by decide +kernel
theorem dX5_copy_157 : decode cX5_copy 157 = .ok (.iload 6, 2) := by decide +kernel
theorem dX5_copy_159 : decode cX5_copy 159 = .ok (.iload 5, 2) := by decide +kernel
theorem dX5_copy_161 : decode cX5_copy 161 = .ok (.if_icmp .ge 31, 3) := by decide +kernel
theorem dX5_copy_164 : decode cX5_copy 164 = .ok (.aload_n 0, 1) := by decide +kernel
theorem dX5_copy_165 : decode cX5_copy 165 = .ok (.getfield 16, 3) := by decide +kernel
theorem dX5_copy_168 : decode cX5_copy 168 = .ok (.bipush 12, 2) := by decide +kernel
theorem dX5_copy_170 : decode cX5_copy 170 = .ok (.iload_n 3, 1) := by decide +kernel
theorem dX5_copy_171 : decode cX5_copy 171 = .ok (.imul, 1) := by decide +kernel
theorem dX5_copy_172 : decode cX5_copy 172 = .ok (.iload 4, 2) := by decide +kernel
theorem dX5_copy_174 : decode cX5_copy 174 = .ok (.iadd, 1) := by decide +kernel
theorem dX5_copy_175 : decode cX5_copy 175 = .ok (.iload 6, 2) := by decide +kernel
theorem dX5_copy_177 : decode cX5_copy 177 = .ok (.iadd, 1) := by decide +kernel
theorem dX5_copy_178 : decode cX5_copy 178 = .ok (.aload_n 0, 1) := by decide +kernel
theorem dX5_copy_179 : decode cX5_copy 179 = .ok (.getfield 19, 3) := by decide +kernel
theorem dX5_copy_182 : decode cX5_copy 182 = .ok (.iload 6, 2) := by decide +kernel
theorem dX5_copy_184 : decode cX5_copy 184 = .ok (.iaload, 1) := by decide +kernel
theorem dX5_copy_185 : decode cX5_copy 185 = .ok (.iastore, 1) := by decide +kernel
theorem dX5_copy_186 : decode cX5_copy 186 = .ok (.iinc 6 1, 3) := by decide +kernel
theorem dX5_copy_189 : decode cX5_copy 189 = .ok (.goto (-32), 3) := by decide +kernel
theorem dX5_copy_192 : decode cX5_copy 192 = .ok (.iconst 1, 1) := by decide +kernel
theorem dX5_copy_193 : decode cX5_copy 193 = .ok (.ireturn, 1) := by decide +kernel
theorem dX5_isForm_0 : decode cX5_isForm 0 = .ok (.aload_n 0, 1) := by decide +kernel
theorem dX5_isForm_1 : decode cX5_isForm 1 = .ok (.getfield 7, 3) := by decide +kernel
theorem dX5_isForm_4 : decode cX5_isForm 4 = .ok (.iload_n 1, 1) := by decide +kernel
theorem dX5_isForm_5 : decode cX5_isForm 5 = .ok (.iaload, 1) := by decide +kernel
theorem dX5_isForm_6 : decode cX5_isForm 6 = .ok (.ifCond .lt 24, 3) := by decide +kernel
theorem dX5_isForm_9 : decode cX5_isForm 9 = .ok (.aload_n 0, 1) := by decide +kernel
theorem dX5_isForm_10 : decode cX5_isForm 10 = .ok (.getfield 13, 3) := by decide +kernel
theorem dX5_isForm_13 : decode cX5_isForm 13 = .ok (.iload_n 1, 1) := by decide +kernel
theorem dX5_isForm_14 : decode cX5_isForm 14 = .ok (.iaload, 1) := by decide +kernel
theorem dX5_isForm_15 : decode cX5_isForm 15 = .ok (.i2l, 1) := by decide +kernel
theorem dX5_isForm_16 : decode cX5_isForm 16 = .ok (.lconst 1, 1) := by decide +kernel
theorem dX5_isForm_17 : decode cX5_isForm 17 = .ok (.ldc2_w 60, 3) := by decide +kernel
theorem dX5_isForm_20 : decode cX5_isForm 20 = .ok (.invokestatic 62, 3) := by decide +kernel
theorem dX5_isForm_23 : decode cX5_isForm 23 = .ok (.ifCond .eq 7, 3) := by decide +kernel
theorem dX5_isForm_26 : decode cX5_isForm 26 = .ok (.iconst 1, 1) := by decide +kernel
theorem dX5_isForm_27 : decode cX5_isForm 27 = .ok (.goto 4, 3) := by decide +kernel
theorem dX5_isForm_30 : decode cX5_isForm 30 = .ok (.iconst 0, 1) := by decide +kernel
theorem dX5_isForm_31 : decode cX5_isForm 31 = .ok (.ireturn, 1) := by decide +kernel
theorem dX5_takeF_0 : decode cX5_takeF 0 = .ok (.aload_n 0, 1) := by decide +kernel
theorem dX5_takeF_1 : decode cX5_takeF 1 = .ok (.aload_n 0, 1) := by decide +kernel
theorem dX5_takeF_2 : decode cX5_takeF 2 = .ok (.getfield 13, 3) := by decide +kernel
theorem dX5_takeF_5 : decode cX5_takeF 5 = .ok (.iload_n 1, 1) := by decide +kernel
theorem dX5_takeF_6 : decode cX5_takeF 6 = .ok (.iaload, 1) := by decide +kernel
theorem dX5_takeF_7 : decode cX5_takeF 7 = .ok (.iconst 1, 1) := by decide +kernel
theorem dX5_takeF_8 : decode cX5_takeF 8 = .ok (.isub, 1) := by decide +kernel
theorem dX5_takeF_9 : decode cX5_takeF 9 = .ok (.putfield 81, 3) := by decide +kernel
theorem dX5_takeF_12 : decode cX5_takeF 12 = .ok (.iconst 0, 1) := by decide +kernel
theorem dX5_takeF_13 : decode cX5_takeF 13 = .ok (.istore_n 2, 1) := by decide +kernel
theorem dX5_takeF_14 : decode cX5_takeF 14 = .ok (.iload_n 2, 1) := by decide +kernel
theorem dX5_takeF_15 : decode cX5_takeF 15 = .ok (.bipush 9, 2) := by decide +kernel
theorem dX5_takeF_17 : decode cX5_takeF 17 = .ok (.if_icmp .ge 42, 3) := by decide +kernel
theorem dX5_takeF_20 : decode cX5_takeF 20 = .ok (.aload_n 0, 1) := by decide +kernel
theorem dX5_takeF_21 : decode cX5_takeF 21 = .ok (.getfield 22, 3) := by decide +kernel
theorem dX5_takeF_24 : decode cX5_takeF 24 = .ok (.iload_n 2, 1) := by decide +kernel
theorem dX5_takeF_25 : decode cX5_takeF 25 = .ok (.iload_n 2, 1) := by decide +kernel
theorem dX5_takeF_26 : decode cX5_takeF 26 = .ok (.aload_n 0, 1) := by decide +kernel
theorem dX5_takeF_27 : decode cX5_takeF 27 = .ok (.getfield 81, 3) := by decide +kernel
theorem dX5_takeF_30 : decode cX5_takeF 30 = .ok (.if_icmp .gt 21, 3) := by decide +kernel
theorem dX5_takeF_33 : decode cX5_takeF 33 = .ok (.aload_n 0, 1) := by decide +kernel
theorem dX5_takeF_34 : decode cX5_takeF 34 = .ok (.getfield 16, 3) := by decide +kernel
theorem dX5_takeF_37 : decode cX5_takeF 37 = .ok (.bipush 12, 2) := by decide +kernel
theorem dX5_takeF_39 : decode cX5_takeF 39 = .ok (.iload_n 1, 1) := by decide +kernel
theorem dX5_takeF_40 : decode cX5_takeF 40 = .ok (.imul, 1) := by decide +kernel
theorem dX5_takeF_41 : decode cX5_takeF 41 = .ok (.iload_n 2, 1) := by decide +kernel
theorem dX5_takeF_42 : decode cX5_takeF 42 = .ok (.iadd, 1) := by decide +kernel
theorem dX5_takeF_43 : decode cX5_takeF 43 = .ok (.iaload, 1) := by decide +kernel
theorem dX5_takeF_44 : decode cX5_takeF 44 = .ok (.i2l, 1) := by decide +kernel
theorem dX5_takeF_45 : decode cX5_takeF 45 = .ok (.invokestatic 48, 3) := by decide +kernel
theorem dX5_takeF_48 : decode cX5_takeF 48 = .ok (.goto 4, 3) := by decide +kernel
theorem dX5_takeF_51 : decode cX5_takeF 51 = .ok (.iconst 0, 1) := by decide +kernel
theorem dX5_takeF_52 : decode cX5_takeF 52 = .ok (.iastore, 1) := by decide +kernel
theorem dX5_takeF_53 : decode cX5_takeF 53 = .ok (.iinc 2 1, 3) := by decide +kernel
theorem dX5_takeF_56 : decode cX5_takeF 56 = .ok (.goto (-42), 3) := by decide +kernel
theorem dX5_takeF_59 : decode cX5_takeF 59 = .ok (.return_, 1) := by decide +kernel
theorem dX5_takeG_0 : decode cX5_takeG 0 = .ok (.aload_n 0, 1) := by decide +kernel
theorem dX5_takeG_1 : decode cX5_takeG 1 = .ok (.aload_n 0, 1) := by decide +kernel
theorem dX5_takeG_2 : decode cX5_takeG 2 = .ok (.getfield 13, 3) := by decide +kernel
theorem dX5_takeG_5 : decode cX5_takeG 5 = .ok (.iload_n 1, 1) := by decide +kernel
theorem dX5_takeG_6 : decode cX5_takeG 6 = .ok (.iaload, 1) := by decide +kernel
theorem dX5_takeG_7 : decode cX5_takeG 7 = .ok (.iconst 1, 1) := by decide +kernel
theorem dX5_takeG_8 : decode cX5_takeG 8 = .ok (.isub, 1) := by decide +kernel
theorem dX5_takeG_9 : decode cX5_takeG 9 = .ok (.putfield 84, 3) := by decide +kernel
theorem dX5_takeG_12 : decode cX5_takeG 12 = .ok (.iconst 0, 1) := by decide +kernel
theorem dX5_takeG_13 : decode cX5_takeG 13 = .ok (.istore_n 2, 1) := by decide +kernel
theorem dX5_takeG_14 : decode cX5_takeG 14 = .ok (.iload_n 2, 1) := by decide +kernel
theorem dX5_takeG_15 : decode cX5_takeG 15 = .ok (.bipush 9, 2) := by decide +kernel
theorem dX5_takeG_17 : decode cX5_takeG 17 = .ok (.if_icmp .ge 42, 3) := by decide +kernel
theorem dX5_takeG_20 : decode cX5_takeG 20 = .ok (.aload_n 0, 1) := by decide +kernel
theorem dX5_takeG_21 : decode cX5_takeG 21 = .ok (.getfield 25, 3) := by decide +kernel
theorem dX5_takeG_24 : decode cX5_takeG 24 = .ok (.iload_n 2, 1) := by decide +kernel
theorem dX5_takeG_25 : decode cX5_takeG 25 = .ok (.iload_n 2, 1) := by decide +kernel
theorem dX5_takeG_26 : decode cX5_takeG 26 = .ok (.aload_n 0, 1) := by decide +kernel
theorem dX5_takeG_27 : decode cX5_takeG 27 = .ok (.getfield 84, 3) := by decide +kernel
theorem dX5_takeG_30 : decode cX5_takeG 30 = .ok (.if_icmp .gt 21, 3) := by decide +kernel
theorem dX5_takeG_33 : decode cX5_takeG 33 = .ok (.aload_n 0, 1) := by decide +kernel
theorem dX5_takeG_34 : decode cX5_takeG 34 = .ok (.getfield 16, 3) := by decide +kernel
theorem dX5_takeG_37 : decode cX5_takeG 37 = .ok (.bipush 12, 2) := by decide +kernel
theorem dX5_takeG_39 : decode cX5_takeG 39 = .ok (.iload_n 1, 1) := by decide +kernel
theorem dX5_takeG_40 : decode cX5_takeG 40 = .ok (.imul, 1) := by decide +kernel
theorem dX5_takeG_41 : decode cX5_takeG 41 = .ok (.iload_n 2, 1) := by decide +kernel
theorem dX5_takeG_42 : decode cX5_takeG 42 = .ok (.iadd, 1) := by decide +kernel
theorem dX5_takeG_43 : decode cX5_takeG 43 = .ok (.iaload, 1) := by decide +kernel
theorem dX5_takeG_44 : decode cX5_takeG 44 = .ok (.i2l, 1) := by decide +kernel
theorem dX5_takeG_45 : decode cX5_takeG 45 = .ok (.invokestatic 48, 3) := by decide +kernel
theorem dX5_takeG_48 : decode cX5_takeG 48 = .ok (.goto 4, 3) := by decide +kernel
theorem dX5_takeG_51 : decode cX5_takeG 51 = .ok (.iconst 0, 1) := by decide +kernel
theorem dX5_takeG_52 : decode cX5_takeG 52 = .ok (.iastore, 1) := by decide +kernel
theorem dX5_takeG_53 : decode cX5_takeG 53 = .ok (.iinc 2 1, 3) := by decide +kernel
theorem dX5_takeG_56 : decode cX5_takeG 56 = .ok (.goto (-42), 3) := by decide +kernel
theorem dX5_takeG_59 : decode cX5_takeG 59 = .ok (.return_, 1) := by decide +kernel
theorem dX5_lay_0 : decode cX5_lay 0 = .ok (.aload_n 0, 1) := by decide +kernel
theorem dX5_lay_1 : decode cX5_lay 1 = .ok (.getfield 7, 3) := by decide +kernel
theorem dX5_lay_4 : decode cX5_lay 4 = .ok (.iload_n 1, 1) := by decide +kernel
theorem dX5_lay_5 : decode cX5_lay 5 = .ok (.iconst 2, 1) := by decide +kernel
theorem dX5_lay_6 : decode cX5_lay 6 = .ok (.iastore, 1) := by decide +kernel
theorem dX5_lay_7 : decode cX5_lay 7 = .ok (.aload_n 0, 1) := by decide +kernel
theorem dX5_lay_8 : decode cX5_lay 8 = .ok (.getfield 13, 3) := by decide +kernel
theorem dX5_lay_11 : decode cX5_lay 11 = .ok (.iload_n 1, 1) := by decide +kernel
theorem dX5_lay_12 : decode cX5_lay 12 = .ok (.aload_n 0, 1) := by decide +kernel
theorem dX5_lay_13 : decode cX5_lay 13 = .ok (.getfield 87, 3) := by decide +kernel
theorem dX5_lay_16 : decode cX5_lay 16 = .ok (.iconst 1, 1) := by decide +kernel
theorem dX5_lay_17 : decode cX5_lay 17 = .ok (.iadd, 1) := by decide +kernel
theorem dX5_lay_18 : decode cX5_lay 18 = .ok (.iastore, 1) := by decide +kernel
theorem dX5_lay_19 : decode cX5_lay 19 = .ok (.iconst 0, 1) := by decide +kernel
theorem dX5_lay_20 : decode cX5_lay 20 = .ok (.istore_n 2, 1) := by decide +kernel
theorem dX5_lay_21 : decode cX5_lay 21 = .ok (.iload_n 2, 1) := by decide +kernel
theorem dX5_lay_22 : decode cX5_lay 22 = .ok (.aload_n 0, 1) := by decide +kernel
theorem dX5_lay_23 : decode cX5_lay 23 = .ok (.getfield 87, 3) := by decide +kernel
theorem dX5_lay_26 : decode cX5_lay 26 = .ok (.if_icmp .gt 26, 3) := by decide +kernel
theorem dX5_lay_29 : decode cX5_lay 29 = .ok (.aload_n 0, 1) := by decide +kernel
theorem dX5_lay_30 : decode cX5_lay 30 = .ok (.getfield 16, 3) := by decide +kernel
theorem dX5_lay_33 : decode cX5_lay 33 = .ok (.bipush 12, 2) := by decide +kernel
theorem dX5_lay_35 : decode cX5_lay 35 = .ok (.iload_n 1, 1) := by decide +kernel
theorem dX5_lay_36 : decode cX5_lay 36 = .ok (.imul, 1) := by decide +kernel
theorem dX5_lay_37 : decode cX5_lay 37 = .ok (.iload_n 2, 1) := by decide +kernel
theorem dX5_lay_38 : decode cX5_lay 38 = .ok (.iadd, 1) := by decide +kernel
theorem dX5_lay_39 : decode cX5_lay 39 = .ok (.aload_n 0, 1) := by decide +kernel
theorem dX5_lay_40 : decode cX5_lay 40 = .ok (.getfield 28, 3) := by decide +kernel
theorem dX5_lay_43 : decode cX5_lay 43 = .ok (.iload_n 2, 1) := by decide +kernel
theorem dX5_lay_44 : decode cX5_lay 44 = .ok (.iaload, 1) := by decide +kernel
theorem dX5_lay_45 : decode cX5_lay 45 = .ok (.iastore, 1) := by decide +kernel
theorem dX5_lay_46 : decode cX5_lay 46 = .ok (.iinc 2 1, 3) := by decide +kernel
theorem dX5_lay_49 : decode cX5_lay 49 = .ok (.goto (-28), 3) := by decide +kernel
theorem dX5_lay_52 : decode cX5_lay 52 = .ok (.aload_n 0, 1) := by decide +kernel
theorem dX5_lay_53 : decode cX5_lay 53 = .ok (.getfield 87, 3) := by decide +kernel
theorem dX5_lay_56 : decode cX5_lay 56 = .ok (.ireturn, 1) := by decide +kernel
theorem dX5_noughtH_0 : decode cX5_noughtH 0 = .ok (.aload_n 0, 1) := by decide +kernel
theorem dX5_noughtH_1 : decode cX5_noughtH 1 = .ok (.iload_n 1, 1) := by decide +kernel
theorem dX5_noughtH_2 : decode cX5_noughtH 2 = .ok (.putfield 87, 3) := by decide +kernel
theorem dX5_noughtH_5 : decode cX5_noughtH 5 = .ok (.iconst 0, 1) := by decide +kernel
theorem dX5_noughtH_6 : decode cX5_noughtH 6 = .ok (.istore_n 2, 1) := by decide +kernel
theorem dX5_noughtH_7 : decode cX5_noughtH 7 = .ok (.iload_n 2, 1) := by decide +kernel
theorem dX5_noughtH_8 : decode cX5_noughtH 8 = .ok (.bipush 20, 2) := by decide +kernel
theorem dX5_noughtH_10 : decode cX5_noughtH 10 = .ok (.if_icmp .ge 16, 3) := by decide +kernel
theorem dX5_noughtH_13 : decode cX5_noughtH 13 = .ok (.aload_n 0, 1) := by decide +kernel
theorem dX5_noughtH_14 : decode cX5_noughtH 14 = .ok (.getfield 28, 3) := by decide +kernel
theorem dX5_noughtH_17 : decode cX5_noughtH 17 = .ok (.iload_n 2, 1) := by decide +kernel
theorem dX5_noughtH_18 : decode cX5_noughtH 18 = .ok (.iconst 0, 1) := by decide +kernel
theorem dX5_noughtH_19 : decode cX5_noughtH 19 = .ok (.iastore, 1) := by decide +kernel
theorem dX5_noughtH_20 : decode cX5_noughtH 20 = .ok (.iinc 2 1, 3) := by decide +kernel
theorem dX5_noughtH_23 : decode cX5_noughtH 23 = .ok (.goto (-16), 3) := by decide +kernel
theorem dX5_noughtH_26 : decode cX5_noughtH 26 = .ok (.return_, 1) := by decide +kernel
theorem dX5_lacksOne_0 : decode cX5_lacksOne 0 = .ok (.aload_n 0, 1) := by decide +kernel
theorem dX5_lacksOne_1 : decode cX5_lacksOne 1 = .ok (.getfield 7, 3) := by decide +kernel
theorem dX5_lacksOne_4 : decode cX5_lacksOne 4 = .ok (.iload_n 1, 1) := by decide +kernel
theorem dX5_lacksOne_5 : decode cX5_lacksOne 5 = .ok (.iaload, 1) := by decide +kernel
theorem dX5_lacksOne_6 : decode cX5_lacksOne 6 = .ok (.ifCond .ge 9, 3) := by decide +kernel
theorem dX5_lacksOne_9 : decode cX5_lacksOne 9 = .ok (.aload_n 0, 1) := by decide +kernel
theorem dX5_lacksOne_10 : decode cX5_lacksOne 10 = .ok (.iconst 1, 1) := by decide +kernel
theorem dX5_lacksOne_11 : decode cX5_lacksOne 11 = .ok (.invokevirtual 72, 3) := by decide +kernel
theorem dX5_lacksOne_14 : decode cX5_lacksOne 14 = .ok (.ireturn, 1) := by decide +kernel
theorem dX5_lacksOne_15 : decode cX5_lacksOne 15 = .ok (.aload_n 0, 1) := by decide +kernel
theorem dX5_lacksOne_16 : decode cX5_lacksOne 16 = .ok (.iload_n 1, 1) := by decide +kernel
theorem dX5_lacksOne_17 : decode cX5_lacksOne 17 = .ok (.invokevirtual 90, 3) := by decide +kernel
theorem dX5_lacksOne_20 : decode cX5_lacksOne 20 = .ok (.ifCond .ne 6, 3) := by decide +kernel
theorem dX5_lacksOne_23 : decode cX5_lacksOne 23 = .ok (.bipush (-3), 2) := by decide +kernel
theorem dX5_lacksOne_25 : decode cX5_lacksOne 25 = .ok (.ireturn, 1) := by decide +kernel
theorem dX5_lacksOne_26 : decode cX5_lacksOne 26 = .ok (.aload_n 0, 1) := by decide +kernel
theorem dX5_lacksOne_27 : decode cX5_lacksOne 27 = .ok (.iload_n 1, 1) := by decide +kernel
theorem dX5_lacksOne_28 : decode cX5_lacksOne 28 = .ok (.invokevirtual 93, 3) := by decide +kernel
theorem dX5_lacksOne_31 : decode cX5_lacksOne 31 = .ok (.iconst 0, 1) := by decide +kernel
theorem dX5_lacksOne_32 : decode cX5_lacksOne 32 = .ok (.ireturn, 1) := by decide +kernel
theorem dX5_lacksTwo_0 : decode cX5_lacksTwo 0 = .ok (.aload_n 0, 1) := by decide +kernel
theorem dX5_lacksTwo_1 : decode cX5_lacksTwo 1 = .ok (.getfield 7, 3) := by decide +kernel
theorem dX5_lacksTwo_4 : decode cX5_lacksTwo 4 = .ok (.iload_n 1, 1) := by decide +kernel
theorem dX5_lacksTwo_5 : decode cX5_lacksTwo 5 = .ok (.iaload, 1) := by decide +kernel
theorem dX5_lacksTwo_6 : decode cX5_lacksTwo 6 = .ok (.ifCond .lt 12, 3) := by decide +kernel
theorem dX5_lacksTwo_9 : decode cX5_lacksTwo 9 = .ok (.aload_n 0, 1) := by decide +kernel
theorem dX5_lacksTwo_10 : decode cX5_lacksTwo 10 = .ok (.getfield 7, 3) := by decide +kernel
theorem dX5_lacksTwo_13 : decode cX5_lacksTwo 13 = .ok (.iload_n 2, 1) := by decide +kernel
theorem dX5_lacksTwo_14 : decode cX5_lacksTwo 14 = .ok (.iaload, 1) := by decide +kernel
theorem dX5_lacksTwo_15 : decode cX5_lacksTwo 15 = .ok (.ifCond .ge 9, 3) := by decide +kernel
theorem dX5_lacksTwo_18 : decode cX5_lacksTwo 18 = .ok (.aload_n 0, 1) := by decide +kernel
theorem dX5_lacksTwo_19 : decode cX5_lacksTwo 19 = .ok (.iconst 1, 1) := by decide +kernel
theorem dX5_lacksTwo_20 : decode cX5_lacksTwo 20 = .ok (.invokevirtual 72, 3) := by decide +kernel
theorem dX5_lacksTwo_23 : decode cX5_lacksTwo 23 = .ok (.ireturn, 1) := by decide +kernel
theorem dX5_lacksTwo_24 : decode cX5_lacksTwo 24 = .ok (.aload_n 0, 1) := by decide +kernel
theorem dX5_lacksTwo_25 : decode cX5_lacksTwo 25 = .ok (.iload_n 1, 1) := by decide +kernel
theorem dX5_lacksTwo_26 : decode cX5_lacksTwo 26 = .ok (.invokevirtual 90, 3) := by decide +kernel
theorem dX5_lacksTwo_29 : decode cX5_lacksTwo 29 = .ok (.ifCond .eq 11, 3) := by decide +kernel
theorem dX5_lacksTwo_32 : decode cX5_lacksTwo 32 = .ok (.aload_n 0, 1) := by decide +kernel
theorem dX5_lacksTwo_33 : decode cX5_lacksTwo 33 = .ok (.iload_n 2, 1) := by decide +kernel
theorem dX5_lacksTwo_34 : decode cX5_lacksTwo 34 = .ok (.invokevirtual 90, 3) := by decide +kernel
theorem dX5_lacksTwo_37 : decode cX5_lacksTwo 37 = .ok (.ifCond .ne 6, 3) := by decide +kernel
theorem dX5_lacksTwo_40 : decode cX5_lacksTwo 40 = .ok (.bipush (-3), 2) := by decide +kernel
theorem dX5_lacksTwo_42 : decode cX5_lacksTwo 42 = .ok (.ireturn, 1) := by decide +kernel
theorem dX5_lacksTwo_43 : decode cX5_lacksTwo 43 = .ok (.aload_n 0, 1) := by decide +kernel
theorem dX5_lacksTwo_44 : decode cX5_lacksTwo 44 = .ok (.iload_n 1, 1) := by decide +kernel
theorem dX5_lacksTwo_45 : decode cX5_lacksTwo 45 = .ok (.invokevirtual 93, 3) := by decide +kernel
theorem dX5_lacksTwo_48 : decode cX5_lacksTwo 48 = .ok (.aload_n 0, 1) := by decide +kernel
theorem dX5_lacksTwo_49 : decode cX5_lacksTwo 49 = .ok (.iload_n 2, 1) := by decide +kernel
theorem dX5_lacksTwo_50 : decode cX5_lacksTwo 50 = .ok (.invokevirtual 97, 3) := by decide +kernel
theorem dX5_lacksTwo_53 : decode cX5_lacksTwo 53 = .ok (.iconst 0, 1) := by decide +kernel
theorem dX5_lacksTwo_54 : decode cX5_lacksTwo 54 = .ok (.ireturn, 1) := by decide +kernel
theorem dX5_isNoughtF_0 : decode cX5_isNoughtF 0 = .ok (.iconst 1, 1) := by decide +kernel
theorem dX5_isNoughtF_1 : decode cX5_isNoughtF 1 = .ok (.istore_n 1, 1) := by decide +kernel
theorem dX5_isNoughtF_2 : decode cX5_isNoughtF 2 = .ok (.iconst 0, 1) := by decide +kernel
theorem dX5_isNoughtF_3 : decode cX5_isNoughtF 3 = .ok (.istore_n 2, 1) := by decide +kernel
theorem dX5_isNoughtF_4 : decode cX5_isNoughtF 4 = .ok (.iload_n 2, 1) := by decide +kernel
theorem dX5_isNoughtF_5 : decode cX5_isNoughtF 5 = .ok (.aload_n 0, 1) := by decide +kernel
theorem dX5_isNoughtF_6 : decode cX5_isNoughtF 6 = .ok (.getfield 81, 3) := by decide +kernel
theorem dX5_isNoughtF_9 : decode cX5_isNoughtF 9 = .ok (.if_icmp .gt 28, 3) := by decide +kernel
theorem dX5_isNoughtF_12 : decode cX5_isNoughtF 12 = .ok (.iload_n 1, 1) := by decide +kernel
theorem dX5_isNoughtF_13 : decode cX5_isNoughtF 13 = .ok (.ifCond .eq 16, 3) := by decide +kernel
theorem dX5_isNoughtF_16 : decode cX5_isNoughtF 16 = .ok (.aload_n 0, 1) := by decide +kernel
theorem dX5_isNoughtF_17 : decode cX5_isNoughtF 17 = .ok (.getfield 22, 3) := by decide +kernel
theorem dX5_isNoughtF_20 : decode cX5_isNoughtF 20 = .ok (.iload_n 2, 1) := by decide +kernel
theorem dX5_isNoughtF_21 : decode cX5_isNoughtF 21 = .ok (.iaload, 1) := by decide +kernel
theorem dX5_isNoughtF_22 : decode cX5_isNoughtF 22 = .ok (.ifCond .ne 7, 3) := by decide +kernel
theorem dX5_isNoughtF_25 : decode cX5_isNoughtF 25 = .ok (.iconst 1, 1) := by decide +kernel
theorem dX5_isNoughtF_26 : decode cX5_isNoughtF 26 = .ok (.goto 4, 3) := by decide +kernel
theorem dX5_isNoughtF_29 : decode cX5_isNoughtF 29 = .ok (.iconst 0, 1) := by decide +kernel
theorem dX5_isNoughtF_30 : decode cX5_isNoughtF 30 = .ok (.istore_n 1, 1) := by decide +kernel
theorem dX5_isNoughtF_31 : decode cX5_isNoughtF 31 = .ok (.iinc 2 1, 3) := by decide +kernel
theorem dX5_isNoughtF_34 : decode cX5_isNoughtF 34 = .ok (.goto (-30), 3) := by decide +kernel
theorem dX5_isNoughtF_37 : decode cX5_isNoughtF 37 = .ok (.iload_n 1, 1) := by decide +kernel
theorem dX5_isNoughtF_38 : decode cX5_isNoughtF 38 = .ok (.ireturn, 1) := by decide +kernel
theorem dX5_isNoughtG_0 : decode cX5_isNoughtG 0 = .ok (.iconst 1, 1) := by decide +kernel
theorem dX5_isNoughtG_1 : decode cX5_isNoughtG 1 = .ok (.istore_n 1, 1) := by decide +kernel
theorem dX5_isNoughtG_2 : decode cX5_isNoughtG 2 = .ok (.iconst 0, 1) := by decide +kernel
theorem dX5_isNoughtG_3 : decode cX5_isNoughtG 3 = .ok (.istore_n 2, 1) := by decide +kernel
theorem dX5_isNoughtG_4 : decode cX5_isNoughtG 4 = .ok (.iload_n 2, 1) := by decide +kernel
theorem dX5_isNoughtG_5 : decode cX5_isNoughtG 5 = .ok (.aload_n 0, 1) := by decide +kernel
theorem dX5_isNoughtG_6 : decode cX5_isNoughtG 6 = .ok (.getfield 84, 3) := by decide +kernel
theorem dX5_isNoughtG_9 : decode cX5_isNoughtG 9 = .ok (.if_icmp .gt 28, 3) := by decide +kernel
theorem dX5_isNoughtG_12 : decode cX5_isNoughtG 12 = .ok (.iload_n 1, 1) := by decide +kernel
theorem dX5_isNoughtG_13 : decode cX5_isNoughtG 13 = .ok (.ifCond .eq 16, 3) := by decide +kernel
theorem dX5_isNoughtG_16 : decode cX5_isNoughtG 16 = .ok (.aload_n 0, 1) := by decide +kernel
theorem dX5_isNoughtG_17 : decode cX5_isNoughtG 17 = .ok (.getfield 25, 3) := by decide +kernel
theorem dX5_isNoughtG_20 : decode cX5_isNoughtG 20 = .ok (.iload_n 2, 1) := by decide +kernel
theorem dX5_isNoughtG_21 : decode cX5_isNoughtG 21 = .ok (.iaload, 1) := by decide +kernel
theorem dX5_isNoughtG_22 : decode cX5_isNoughtG 22 = .ok (.ifCond .ne 7, 3) := by decide +kernel
theorem dX5_isNoughtG_25 : decode cX5_isNoughtG 25 = .ok (.iconst 1, 1) := by decide +kernel
theorem dX5_isNoughtG_26 : decode cX5_isNoughtG 26 = .ok (.goto 4, 3) := by decide +kernel
theorem dX5_isNoughtG_29 : decode cX5_isNoughtG 29 = .ok (.iconst 0, 1) := by decide +kernel
theorem dX5_isNoughtG_30 : decode cX5_isNoughtG 30 = .ok (.istore_n 1, 1) := by decide +kernel
theorem dX5_isNoughtG_31 : decode cX5_isNoughtG 31 = .ok (.iinc 2 1, 3) := by decide +kernel
theorem dX5_isNoughtG_34 : decode cX5_isNoughtG 34 = .ok (.goto (-30), 3) := by decide +kernel
theorem dX5_isNoughtG_37 : decode cX5_isNoughtG 37 = .ok (.iload_n 1, 1) := by decide +kernel
theorem dX5_isNoughtG_38 : decode cX5_isNoughtG 38 = .ok (.ireturn, 1) := by decide +kernel
theorem dX5_term_0 : decode cX5_term 0 = .ok (.iload_n 1, 1) := by decide +kernel
theorem dX5_term_1 : decode cX5_term 1 = .ok (.invokestatic 66, 3) := by decide +kernel
theorem dX5_term_4 : decode cX5_term 4 = .ok (.ifCond .eq 15, 3) := by decide +kernel
theorem dX5_term_7 : decode cX5_term 7 = .ok (.iload_n 2, 1) := by decide +kernel
theorem dX5_term_8 : decode cX5_term 8 = .ok (.i2l, 1) := by decide +kernel
theorem dX5_term_9 : decode cX5_term 9 = .ok (.lconst 0, 1) := by decide +kernel
theorem dX5_term_10 : decode cX5_term 10 = .ok (.ldc2_w 100, 3) := by decide +kernel
theorem dX5_term_13 : decode cX5_term 13 = .ok (.invokestatic 62, 3) := by decide +kernel
theorem dX5_term_16 : decode cX5_term 16 = .ok (.ifCond .ne 6, 3) := by decide +kernel
theorem dX5_term_19 : decode cX5_term 19 = .ok (.bipush (-2), 2) := by decide +kernel
theorem dX5_term_21 : decode cX5_term 21 = .ok (.ireturn, 1) := by decide +kernel
theorem dX5_term_22 : decode cX5_term 22 = .ok (.aload_n 0, 1) := by decide +kernel
theorem dX5_term_23 : decode cX5_term 23 = .ok (.iload_n 1, 1) := by decide +kernel
theorem dX5_term_24 : decode cX5_term 24 = .ok (.invokevirtual 102, 3) := by decide +kernel
theorem dX5_term_27 : decode cX5_term 27 = .ok (.istore_n 3, 1) := by decide +kernel
theorem dX5_term_28 : decode cX5_term 28 = .ok (.iload_n 3, 1) := by decide +kernel
theorem dX5_term_29 : decode cX5_term 29 = .ok (.ifCond .eq 7, 3) := by decide +kernel
theorem dX5_term_32 : decode cX5_term 32 = .ok (.iload_n 3, 1) := by decide +kernel
theorem dX5_term_33 : decode cX5_term 33 = .ok (.goto 9, 3) := by decide +kernel
theorem dX5_term_36 : decode cX5_term 36 = .ok (.aload_n 0, 1) := by decide +kernel
theorem dX5_term_37 : decode cX5_term 37 = .ok (.getfield 22, 3) := by decide +kernel
theorem dX5_term_40 : decode cX5_term 40 = .ok (.iload_n 2, 1) := by decide +kernel
theorem dX5_term_41 : decode cX5_term 41 = .ok (.iaload, 1) := by decide +kernel
theorem dX5_term_42 : decode cX5_term 42 = .ok (.ireturn, 1) := by decide +kernel
theorem dX5_degree_0 : decode cX5_degree 0 = .ok (.iload_n 1, 1) := by decide +kernel
theorem dX5_degree_1 : decode cX5_degree 1 = .ok (.invokestatic 66, 3) := by decide +kernel
theorem dX5_degree_4 : decode cX5_degree 4 = .ok (.ifCond .ne 6, 3) := by decide +kernel
theorem dX5_degree_7 : decode cX5_degree 7 = .ok (.bipush (-2), 2) := by decide +kernel
theorem dX5_degree_9 : decode cX5_degree 9 = .ok (.ireturn, 1) := by decide +kernel
theorem dX5_degree_10 : decode cX5_degree 10 = .ok (.aload_n 0, 1) := by decide +kernel
theorem dX5_degree_11 : decode cX5_degree 11 = .ok (.iload_n 1, 1) := by decide +kernel
theorem dX5_degree_12 : decode cX5_degree 12 = .ok (.invokevirtual 102, 3) := by decide +kernel
theorem dX5_degree_15 : decode cX5_degree 15 = .ok (.istore_n 2, 1) := by decide +kernel
theorem dX5_degree_16 : decode cX5_degree 16 = .ok (.iload_n 2, 1) := by decide +kernel
theorem dX5_degree_17 : decode cX5_degree 17 = .ok (.ifCond .eq 7, 3) := by decide +kernel
theorem dX5_degree_20 : decode cX5_degree 20 = .ok (.iload_n 2, 1) := by decide +kernel
theorem dX5_degree_21 : decode cX5_degree 21 = .ok (.goto 7, 3) := by decide +kernel
theorem dX5_degree_24 : decode cX5_degree 24 = .ok (.aload_n 0, 1) := by decide +kernel
theorem dX5_degree_25 : decode cX5_degree 25 = .ok (.getfield 81, 3) := by decide +kernel
theorem dX5_degree_28 : decode cX5_degree 28 = .ok (.ireturn, 1) := by decide +kernel
theorem dX5_valueF_0 : decode cX5_valueF 0 = .ok (.iconst 0, 1) := by decide +kernel
theorem dX5_valueF_1 : decode cX5_valueF 1 = .ok (.istore_n 3, 1) := by decide +kernel
theorem dX5_valueF_2 : decode cX5_valueF 2 = .ok (.iconst 1, 1) := by decide +kernel
theorem dX5_valueF_3 : decode cX5_valueF 3 = .ok (.istore 4, 2) := by decide +kernel
theorem dX5_valueF_5 : decode cX5_valueF 5 = .ok (.iconst 0, 1) := by decide +kernel
theorem dX5_valueF_6 : decode cX5_valueF 6 = .ok (.istore 5, 2) := by decide +kernel
theorem dX5_valueF_8 : decode cX5_valueF 8 = .ok (.iload 5, 2) := by decide +kernel
theorem dX5_valueF_10 : decode cX5_valueF 10 = .ok (.aload_n 0, 1) := by decide +kernel
theorem dX5_valueF_11 : decode cX5_valueF 11 = .ok (.getfield 81, 3) := by decide +kernel
theorem dX5_valueF_14 : decode cX5_valueF 14 = .ok (.if_icmp .gt 68, 3) := by decide +kernel
theorem dX5_valueF_17 : decode cX5_valueF 17 = .ok (.aload_n 0, 1) := by decide +kernel
theorem dX5_valueF_18 : decode cX5_valueF 18 = .ok (.getfield 22, 3) := by decide +kernel
theorem dX5_valueF_21 : decode cX5_valueF 21 = .ok (.iload 5, 2) := by decide +kernel
theorem dX5_valueF_23 : decode cX5_valueF 23 = .ok (.iaload, 1) := by decide +kernel
theorem dX5_valueF_24 : decode cX5_valueF 24 = .ok (.iload 4, 2) := by decide +kernel
theorem dX5_valueF_26 : decode cX5_valueF 26 = .ok (.invokestatic 52, 3) := by decide +kernel
theorem dX5_valueF_29 : decode cX5_valueF 29 = .ok (.istore 6, 2) := by decide +kernel
theorem dX5_valueF_31 : decode cX5_valueF 31 = .ok (.iload 5, 2) := by decide +kernel
theorem dX5_valueF_33 : decode cX5_valueF 33 = .ok (.istore 7, 2) := by decide +kernel
theorem dX5_valueF_35 : decode cX5_valueF 35 = .ok (.iload 7, 2) := by decide +kernel
theorem dX5_valueF_37 : decode cX5_valueF 37 = .ok (.aload_n 0, 1) := by decide +kernel
theorem dX5_valueF_38 : decode cX5_valueF 38 = .ok (.getfield 81, 3) := by decide +kernel
theorem dX5_valueF_41 : decode cX5_valueF 41 = .ok (.if_icmp .ge 17, 3) := by decide +kernel
theorem dX5_valueF_44 : decode cX5_valueF 44 = .ok (.iload 6, 2) := by decide +kernel
theorem dX5_valueF_46 : decode cX5_valueF 46 = .ok (.iload_n 1, 1) := by decide +kernel
theorem dX5_valueF_47 : decode cX5_valueF 47 = .ok (.invokestatic 52, 3) := by decide +kernel
theorem dX5_valueF_50 : decode cX5_valueF 50 = .ok (.istore 6, 2) := by decide +kernel
theorem dX5_valueF_52 : decode cX5_valueF 52 = .ok (.iinc 7 1, 3) := by decide +kernel
theorem dX5_valueF_55 : decode cX5_valueF 55 = .ok (.goto (-20), 3) := by decide +kernel
theorem dX5_valueF_58 : decode cX5_valueF 58 = .ok (.iload_n 3, 1) := by decide +kernel
theorem dX5_valueF_59 : decode cX5_valueF 59 = .ok (.i2l, 1) := by decide +kernel
theorem dX5_valueF_60 : decode cX5_valueF 60 = .ok (.iload 6, 2) := by decide +kernel
theorem dX5_valueF_62 : decode cX5_valueF 62 = .ok (.i2l, 1) := by decide +kernel
theorem dX5_valueF_63 : decode cX5_valueF 63 = .ok (.ladd, 1) := by decide +kernel
theorem dX5_valueF_64 : decode cX5_valueF 64 = .ok (.invokestatic 48, 3) := by decide +kernel
theorem dX5_valueF_67 : decode cX5_valueF 67 = .ok (.istore_n 3, 1) := by decide +kernel
theorem dX5_valueF_68 : decode cX5_valueF 68 = .ok (.iload 4, 2) := by decide +kernel
theorem dX5_valueF_70 : decode cX5_valueF 70 = .ok (.iload_n 2, 1) := by decide +kernel
theorem dX5_valueF_71 : decode cX5_valueF 71 = .ok (.invokestatic 52, 3) := by decide +kernel
theorem dX5_valueF_74 : decode cX5_valueF 74 = .ok (.istore 4, 2) := by decide +kernel
theorem dX5_valueF_76 : decode cX5_valueF 76 = .ok (.iinc 5 1, 3) := by decide +kernel
theorem dX5_valueF_79 : decode cX5_valueF 79 = .ok (.goto (-71), 3) := by decide +kernel
theorem dX5_valueF_82 : decode cX5_valueF 82 = .ok (.iload_n 3, 1) := by decide +kernel
theorem dX5_valueF_83 : decode cX5_valueF 83 = .ok (.ireturn, 1) := by decide +kernel
theorem dX5_value_0 : decode cX5_value 0 = .ok (.iload_n 1, 1) := by decide +kernel
theorem dX5_value_1 : decode cX5_value 1 = .ok (.invokestatic 66, 3) := by decide +kernel
theorem dX5_value_4 : decode cX5_value 4 = .ok (.ifCond .ne 6, 3) := by decide +kernel
theorem dX5_value_7 : decode cX5_value 7 = .ok (.bipush (-2), 2) := by decide +kernel
theorem dX5_value_9 : decode cX5_value 9 = .ok (.ireturn, 1) := by decide +kernel
theorem dX5_value_10 : decode cX5_value 10 = .ok (.aload_n 0, 1) := by decide +kernel
theorem dX5_value_11 : decode cX5_value 11 = .ok (.iload_n 1, 1) := by decide +kernel
theorem dX5_value_12 : decode cX5_value 12 = .ok (.invokevirtual 102, 3) := by decide +kernel
theorem dX5_value_15 : decode cX5_value 15 = .ok (.istore 4, 2) := by decide +kernel
theorem dX5_value_17 : decode cX5_value 17 = .ok (.iload 4, 2) := by decide +kernel
theorem dX5_value_19 : decode cX5_value 19 = .ok (.ifCond .eq 8, 3) := by decide +kernel
theorem dX5_value_22 : decode cX5_value 22 = .ok (.iload 4, 2) := by decide +kernel
theorem dX5_value_24 : decode cX5_value 24 = .ok (.goto 17, 3) := by decide +kernel
theorem dX5_value_27 : decode cX5_value 27 = .ok (.aload_n 0, 1) := by decide +kernel
theorem dX5_value_28 : decode cX5_value 28 = .ok (.iload_n 2, 1) := by decide +kernel
theorem dX5_value_29 : decode cX5_value 29 = .ok (.i2l, 1) := by decide +kernel
theorem dX5_value_30 : decode cX5_value 30 = .ok (.invokestatic 48, 3) := by decide +kernel
theorem dX5_value_33 : decode cX5_value 33 = .ok (.iload_n 3, 1) := by decide +kernel
theorem dX5_value_34 : decode cX5_value 34 = .ok (.i2l, 1) := by decide +kernel
theorem dX5_value_35 : decode cX5_value 35 = .ok (.invokestatic 48, 3) := by decide +kernel
theorem dX5_value_38 : decode cX5_value 38 = .ok (.invokevirtual 105, 3) := by decide +kernel
theorem dX5_value_41 : decode cX5_value 41 = .ok (.ireturn, 1) := by decide +kernel
theorem dX5_join_0 : decode cX5_join 0 = .ok (.iload_n 1, 1) := by decide +kernel
theorem dX5_join_1 : decode cX5_join 1 = .ok (.invokestatic 66, 3) := by decide +kernel
theorem dX5_join_4 : decode cX5_join 4 = .ok (.ifCond .eq 30, 3) := by decide +kernel
theorem dX5_join_7 : decode cX5_join 7 = .ok (.iload_n 2, 1) := by decide +kernel
theorem dX5_join_8 : decode cX5_join 8 = .ok (.invokestatic 66, 3) := by decide +kernel
theorem dX5_join_11 : decode cX5_join 11 = .ok (.ifCond .eq 23, 3) := by decide +kernel
theorem dX5_join_14 : decode cX5_join 14 = .ok (.iload_n 3, 1) := by decide +kernel
theorem dX5_join_15 : decode cX5_join 15 = .ok (.invokestatic 66, 3) := by decide +kernel
theorem dX5_join_18 : decode cX5_join 18 = .ok (.ifCond .eq 16, 3) := by decide +kernel
theorem dX5_join_21 : decode cX5_join 21 = .ok (.iload 4, 2) := by decide +kernel
theorem dX5_join_23 : decode cX5_join 23 = .ok (.i2l, 1) := by decide +kernel
theorem dX5_join_24 : decode cX5_join 24 = .ok (.lconst 0, 1) := by decide +kernel
theorem dX5_join_25 : decode cX5_join 25 = .ok (.ldc2_w 108, 3) := by decide +kernel
theorem dX5_join_28 : decode cX5_join 28 = .ok (.invokestatic 62, 3) := by decide +kernel
theorem dX5_join_31 : decode cX5_join 31 = .ok (.ifCond .ne 6, 3) := by decide +kernel
theorem dX5_join_34 : decode cX5_join 34 = .ok (.bipush (-2), 2) := by decide +kernel
theorem dX5_join_36 : decode cX5_join 36 = .ok (.ireturn, 1) := by decide +kernel
theorem dX5_join_37 : decode cX5_join 37 = .ok (.aload_n 0, 1) := by decide +kernel
theorem dX5_join_38 : decode cX5_join 38 = .ok (.iload_n 1, 1) := by decide +kernel
theorem dX5_join_39 : decode cX5_join 39 = .ok (.iload_n 2, 1) := by decide +kernel
theorem dX5_join_40 : decode cX5_join 40 = .ok (.invokevirtual 110, 3) := by decide +kernel
theorem dX5_join_43 : decode cX5_join 43 = .ok (.istore 5, 2) := by decide +kernel
theorem dX5_join_45 : decode cX5_join 45 = .ok (.iload 5, 2) := by decide +kernel
theorem dX5_join_47 : decode cX5_join 47 = .ok (.ifCond .eq 6, 3) := by decide +kernel
theorem dX5_join_50 : decode cX5_join 50 = .ok (.iload 5, 2) := by decide +kernel
theorem dX5_join_52 : decode cX5_join 52 = .ok (.ireturn, 1) := by decide +kernel
theorem dX5_join_53 : decode cX5_join 53 = .ok (.iload 4, 2) := by decide +kernel
theorem dX5_join_55 : decode cX5_join 55 = .ok (.iconst 2, 1) := by decide +kernel
theorem dX5_join_56 : decode cX5_join 56 = .ok (.if_icmp .ge 14, 3) := by decide +kernel
theorem dX5_join_59 : decode cX5_join 59 = .ok (.aload_n 0, 1) := by decide +kernel
theorem dX5_join_60 : decode cX5_join 60 = .ok (.getfield 81, 3) := by decide +kernel
theorem dX5_join_63 : decode cX5_join 63 = .ok (.aload_n 0, 1) := by decide +kernel
theorem dX5_join_64 : decode cX5_join 64 = .ok (.getfield 84, 3) := by decide +kernel
theorem dX5_join_67 : decode cX5_join 67 = .ok (.if_icmp .ne 23, 3) := by decide +kernel
theorem dX5_join_70 : decode cX5_join 70 = .ok (.iload 4, 2) := by decide +kernel
theorem dX5_join_72 : decode cX5_join 72 = .ok (.iconst 2, 1) := by decide +kernel
theorem dX5_join_73 : decode cX5_join 73 = .ok (.if_icmp .ne 20, 3) := by decide +kernel
theorem dX5_join_76 : decode cX5_join 76 = .ok (.aload_n 0, 1) := by decide +kernel
theorem dX5_join_77 : decode cX5_join 77 = .ok (.getfield 81, 3) := by decide +kernel
theorem dX5_join_80 : decode cX5_join 80 = .ok (.aload_n 0, 1) := by decide +kernel
theorem dX5_join_81 : decode cX5_join 81 = .ok (.getfield 84, 3) := by decide +kernel
theorem dX5_join_84 : decode cX5_join 84 = .ok (.iadd, 1) := by decide +kernel
theorem dX5_join_85 : decode cX5_join 85 = .ok (.bipush 8, 2) := by decide +kernel
theorem dX5_join_87 : decode cX5_join 87 = .ok (.if_icmp .le 6, 3) := by decide +kernel
theorem dX5_join_90 : decode cX5_join 90 = .ok (.bipush (-3), 2) := by decide +kernel
theorem dX5_join_92 : decode cX5_join 92 = .ok (.ireturn, 1) := by decide +kernel
theorem dX5_join_93 : decode cX5_join 93 = .ok (.aload_n 0, 1) := by decide +kernel
theorem dX5_join_94 : decode cX5_join 94 = .ok (.iload 4, 2) := by decide +kernel
theorem dX5_join_96 : decode cX5_join 96 = .ok (.iconst 2, 1) := by decide +kernel
theorem dX5_join_97 : decode cX5_join 97 = .ok (.if_icmp .ne 15, 3) := by decide +kernel
theorem dX5_join_100 : decode cX5_join 100 = .ok (.aload_n 0, 1) := by decide +kernel
theorem dX5_join_101 : decode cX5_join 101 = .ok (.getfield 81, 3) := by decide +kernel
theorem dX5_join_104 : decode cX5_join 104 = .ok (.aload_n 0, 1) := by decide +kernel
theorem dX5_join_105 : decode cX5_join 105 = .ok (.getfield 84, 3) := by decide +kernel
theorem dX5_join_108 : decode cX5_join 108 = .ok (.iadd, 1) := by decide +kernel
theorem dX5_join_109 : decode cX5_join 109 = .ok (.goto 7, 3) := by decide +kernel
theorem dX5_join_112 : decode cX5_join 112 = .ok (.aload_n 0, 1) := by decide +kernel
theorem dX5_join_113 : decode cX5_join 113 = .ok (.getfield 81, 3) := by decide +kernel
theorem dX5_join_116 : decode cX5_join 116 = .ok (.invokevirtual 113, 3) := by decide +kernel
theorem dX5_join_119 : decode cX5_join 119 = .ok (.iconst 0, 1) := by decide +kernel
theorem dX5_join_120 : decode cX5_join 120 = .ok (.istore 6, 2) := by decide +kernel
theorem dX5_join_122 : decode cX5_join 122 = .ok (.iload 6, 2) := by decide +kernel
theorem dX5_join_124 : decode cX5_join 124 = .ok (.aload_n 0, 1) := by decide +kernel
theorem dX5_join_125 : decode cX5_join 125 = .ok (.getfield 81, 3) := by decide +kernel
theorem dX5_join_128 : decode cX5_join 128 = .ok (.if_icmp .gt 156, 3) := by decide +kernel
theorem dX5_join_131 : decode cX5_join 131 = .ok (.iload 4, 2) := by decide +kernel
theorem dX5_join_133 : decode cX5_join 133 = .ok (.iconst 2, 1) := by decide +kernel
theorem dX5_join_134 : decode cX5_join 134 = .ok (.if_icmp .ne 66, 3) := by decide +kernel
theorem dX5_join_137 : decode cX5_join 137 = .ok (.iconst 0, 1) := by decide +kernel
theorem dX5_join_138 : decode cX5_join 138 = .ok (.istore 7, 2) := by decide +kernel
theorem dX5_join_140 : decode cX5_join 140 = .ok (.iload 7, 2) := by decide +kernel
theorem dX5_join_142 : decode cX5_join 142 = .ok (.aload_n 0, 1) := by decide +kernel
theorem dX5_join_143 : decode cX5_join 143 = .ok (.getfield 84, 3) := by decide +kernel
theorem dX5_join_146 : decode cX5_join 146 = .ok (.if_icmp .gt 51, 3) := by decide +kernel
theorem dX5_join_149 : decode cX5_join 149 = .ok (.aload_n 0, 1) := by decide +kernel
theorem dX5_join_150 : decode cX5_join 150 = .ok (.getfield 28, 3) := by decide +kernel
theorem dX5_join_153 : decode cX5_join 153 = .ok (.iload 6, 2) := by decide +kernel
theorem dX5_join_155 : decode cX5_join 155 = .ok (.iload 7, 2) := by decide +kernel
theorem dX5_join_157 : decode cX5_join 157 = .ok (.iadd, 1) := by decide +kernel
theorem dX5_join_158 : decode cX5_join 158 = .ok (.aload_n 0, 1) := by decide +kernel
theorem dX5_join_159 : decode cX5_join 159 = .ok (.getfield 28, 3) := by decide +kernel
theorem dX5_join_162 : decode cX5_join 162 = .ok (.iload 6, 2) := by decide +kernel
theorem dX5_join_164 : decode cX5_join 164 = .ok (.iload 7, 2) := by decide +kernel
theorem dX5_join_166 : decode cX5_join 166 = .ok (.iadd, 1) := by decide +kernel
theorem dX5_join_167 : decode cX5_join 167 = .ok (.iaload, 1) := by decide +kernel
theorem dX5_join_168 : decode cX5_join 168 = .ok (.i2l, 1) := by decide +kernel
theorem dX5_join_169 : decode cX5_join 169 = .ok (.aload_n 0, 1) := by decide +kernel
theorem dX5_join_170 : decode cX5_join 170 = .ok (.getfield 22, 3) := by decide +kernel
theorem dX5_join_173 : decode cX5_join 173 = .ok (.iload 6, 2) := by decide +kernel
theorem dX5_join_175 : decode cX5_join 175 = .ok (.iaload, 1) := by decide +kernel
theorem dX5_join_176 : decode cX5_join 176 = .ok (.i2l, 1) := by decide +kernel
theorem dX5_join_177 : decode cX5_join 177 = .ok (.aload_n 0, 1) := by decide +kernel
theorem dX5_join_178 : decode cX5_join 178 = .ok (.getfield 25, 3) := by decide +kernel
theorem dX5_join_181 : decode cX5_join 181 = .ok (.iload 7, 2) := by decide +kernel
theorem dX5_join_183 : decode cX5_join 183 = .ok (.iaload, 1) := by decide +kernel
theorem dX5_join_184 : decode cX5_join 184 = .ok (.i2l, 1) := by decide +kernel
theorem dX5_join_185 : decode cX5_join 185 = .ok (.lmul, 1) := by decide +kernel
theorem dX5_join_186 : decode cX5_join 186 = .ok (.ladd, 1) := by decide +kernel
theorem dX5_join_187 : decode cX5_join 187 = .ok (.invokestatic 48, 3) := by decide +kernel
theorem dX5_join_190 : decode cX5_join 190 = .ok (.iastore, 1) := by decide +kernel
theorem dX5_join_191 : decode cX5_join 191 = .ok (.iinc 7 1, 3) := by decide +kernel
theorem dX5_join_194 : decode cX5_join 194 = .ok (.goto (-54), 3) := by decide +kernel
theorem dX5_join_197 : decode cX5_join 197 = .ok (.goto 81, 3) := by decide +kernel
theorem dX5_join_200 : decode cX5_join 200 = .ok (.aload_n 0, 1) := by decide +kernel
theorem dX5_join_201 : decode cX5_join 201 = .ok (.getfield 28, 3) := by decide +kernel
theorem dX5_join_204 : decode cX5_join 204 = .ok (.iload 6, 2) := by decide +kernel
theorem dX5_join_206 : decode cX5_join 206 = .ok (.iload 4, 2) := by decide +kernel
theorem dX5_join_208 : decode cX5_join 208 = .ok (.ifCond .ne 25, 3) := by decide +kernel
theorem dX5_join_211 : decode cX5_join 211 = .ok (.aload_n 0, 1) := by decide +kernel
theorem dX5_join_212 : decode cX5_join 212 = .ok (.getfield 22, 3) := by decide +kernel
theorem dX5_join_215 : decode cX5_join 215 = .ok (.iload 6, 2) := by decide +kernel
theorem dX5_join_217 : decode cX5_join 217 = .ok (.iaload, 1) := by decide +kernel
theorem dX5_join_218 : decode cX5_join 218 = .ok (.aload_n 0, 1) := by decide +kernel
theorem dX5_join_219 : decode cX5_join 219 = .ok (.getfield 25, 3) := by decide +kernel
theorem dX5_join_222 : decode cX5_join 222 = .ok (.iload 6, 2) := by decide +kernel
theorem dX5_join_224 : decode cX5_join 224 = .ok (.iaload, 1) := by decide +kernel
theorem dX5_join_225 : decode cX5_join 225 = .ok (.iadd, 1) := by decide +kernel
theorem dX5_join_226 : decode cX5_join 226 = .ok (.i2l, 1) := by decide +kernel
theorem dX5_join_227 : decode cX5_join 227 = .ok (.invokestatic 48, 3) := by decide +kernel
theorem dX5_join_230 : decode cX5_join 230 = .ok (.goto 47, 3) := by decide +kernel
theorem dX5_join_233 : decode cX5_join 233 = .ok (.iload 4, 2) := by decide +kernel
theorem dX5_join_235 : decode cX5_join 235 = .ok (.iconst 1, 1) := by decide +kernel
theorem dX5_join_236 : decode cX5_join 236 = .ok (.if_icmp .ne 25, 3) := by decide +kernel
theorem dX5_join_239 : decode cX5_join 239 = .ok (.aload_n 0, 1) := by decide +kernel
theorem dX5_join_240 : decode cX5_join 240 = .ok (.getfield 22, 3) := by decide +kernel
theorem dX5_join_243 : decode cX5_join 243 = .ok (.iload 6, 2) := by decide +kernel
theorem dX5_join_245 : decode cX5_join 245 = .ok (.iaload, 1) := by decide +kernel
theorem dX5_join_246 : decode cX5_join 246 = .ok (.aload_n 0, 1) := by decide +kernel
theorem dX5_join_247 : decode cX5_join 247 = .ok (.getfield 25, 3) := by decide +kernel
theorem dX5_join_250 : decode cX5_join 250 = .ok (.iload 6, 2) := by decide +kernel
theorem dX5_join_252 : decode cX5_join 252 = .ok (.iaload, 1) := by decide +kernel
theorem dX5_join_253 : decode cX5_join 253 = .ok (.isub, 1) := by decide +kernel
theorem dX5_join_254 : decode cX5_join 254 = .ok (.i2l, 1) := by decide +kernel
theorem dX5_join_255 : decode cX5_join 255 = .ok (.invokestatic 48, 3) := by decide +kernel
theorem dX5_join_258 : decode cX5_join 258 = .ok (.goto 19, 3) := by decide +kernel
theorem dX5_join_261 : decode cX5_join 261 = .ok (.aload_n 0, 1) := by decide +kernel
theorem dX5_join_262 : decode cX5_join 262 = .ok (.getfield 22, 3) := by decide +kernel
theorem dX5_join_265 : decode cX5_join 265 = .ok (.iload 6, 2) := by decide +kernel
theorem dX5_join_267 : decode cX5_join 267 = .ok (.iaload, 1) := by decide +kernel
theorem dX5_join_268 : decode cX5_join 268 = .ok (.aload_n 0, 1) := by decide +kernel
theorem dX5_join_269 : decode cX5_join 269 = .ok (.getfield 25, 3) := by decide +kernel
theorem dX5_join_272 : decode cX5_join 272 = .ok (.iconst 0, 1) := by decide +kernel
theorem dX5_join_273 : decode cX5_join 273 = .ok (.iaload, 1) := by decide +kernel
theorem dX5_join_274 : decode cX5_join 274 = .ok (.invokestatic 52, 3) := by decide +kernel
theorem dX5_join_277 : decode cX5_join 277 = .ok (.iastore, 1) := by decide +kernel
theorem dX5_join_278 : decode cX5_join 278 = .ok (.iinc 6 1, 3) := by decide +kernel
theorem dX5_join_281 : decode cX5_join 281 = .ok (.goto (-159), 3) := by decide +kernel
theorem dX5_join_284 : decode cX5_join 284 = .ok (.aload_n 0, 1) := by decide +kernel
theorem dX5_join_285 : decode cX5_join 285 = .ok (.iload_n 3, 1) := by decide +kernel
theorem dX5_join_286 : decode cX5_join 286 = .ok (.invokevirtual 116, 3) := by decide +kernel
theorem dX5_join_289 : decode cX5_join 289 = .ok (.ireturn, 1) := by decide +kernel
theorem dX5_mixes_0 : decode cX5_mixes 0 = .ok (.aload_n 0, 1) := by decide +kernel
theorem dX5_mixes_1 : decode cX5_mixes 1 = .ok (.aload_n 0, 1) := by decide +kernel
theorem dX5_mixes_2 : decode cX5_mixes 2 = .ok (.getfield 81, 3) := by decide +kernel
theorem dX5_mixes_5 : decode cX5_mixes 5 = .ok (.invokevirtual 113, 3) := by decide +kernel
theorem dX5_mixes_8 : decode cX5_mixes 8 = .ok (.iconst 0, 1) := by decide +kernel
theorem dX5_mixes_9 : decode cX5_mixes 9 = .ok (.istore 5, 2) := by decide +kernel
theorem dX5_mixes_11 : decode cX5_mixes 11 = .ok (.iload 5, 2) := by decide +kernel
theorem dX5_mixes_13 : decode cX5_mixes 13 = .ok (.aload_n 0, 1) := by decide +kernel
theorem dX5_mixes_14 : decode cX5_mixes 14 = .ok (.getfield 81, 3) := by decide +kernel
theorem dX5_mixes_17 : decode cX5_mixes 17 = .ok (.if_icmp .gt 212, 3) := by decide +kernel
theorem dX5_mixes_20 : decode cX5_mixes 20 = .ok (.iconst 0, 1) := by decide +kernel
theorem dX5_mixes_21 : decode cX5_mixes 21 = .ok (.istore 6, 2) := by decide +kernel
theorem dX5_mixes_23 : decode cX5_mixes 23 = .ok (.iload 6, 2) := by decide +kernel
theorem dX5_mixes_25 : decode cX5_mixes 25 = .ok (.bipush 10, 2) := by decide +kernel
theorem dX5_mixes_27 : decode cX5_mixes 27 = .ok (.if_icmp .ge 32, 3) := by decide +kernel
theorem dX5_mixes_30 : decode cX5_mixes 30 = .ok (.aload_n 0, 1) := by decide +kernel
theorem dX5_mixes_31 : decode cX5_mixes 31 = .ok (.getfield 31, 3) := by decide +kernel
theorem dX5_mixes_34 : decode cX5_mixes 34 = .ok (.iload 6, 2) := by decide +kernel
theorem dX5_mixes_36 : decode cX5_mixes 36 = .ok (.iload 6, 2) := by decide +kernel
theorem dX5_mixes_38 : decode cX5_mixes 38 = .ok (.ifCond .ne 13, 3) := by decide +kernel
theorem dX5_mixes_41 : decode cX5_mixes 41 = .ok (.aload_n 0, 1) := by decide +kernel
theorem dX5_mixes_42 : decode cX5_mixes 42 = .ok (.getfield 22, 3) := by decide +kernel
theorem dX5_mixes_45 : decode cX5_mixes 45 = .ok (.iload 5, 2) := by decide +kernel
theorem dX5_mixes_47 : decode cX5_mixes 47 = .ok (.iaload, 1) := by decide +kernel
theorem dX5_mixes_48 : decode cX5_mixes 48 = .ok (.goto 4, 3) := by decide +kernel
theorem dX5_mixes_51 : decode cX5_mixes 51 = .ok (.iconst 0, 1) := by decide +kernel
theorem dX5_mixes_52 : decode cX5_mixes 52 = .ok (.iastore, 1) := by decide +kernel
theorem dX5_mixes_53 : decode cX5_mixes 53 = .ok (.iinc 6 1, 3) := by decide +kernel
theorem dX5_mixes_56 : decode cX5_mixes 56 = .ok (.goto (-33), 3) := by decide +kernel
theorem dX5_mixes_59 : decode cX5_mixes 59 = .ok (.iconst 0, 1) := by decide +kernel
theorem dX5_mixes_60 : decode cX5_mixes 60 = .ok (.istore 6, 2) := by decide +kernel
theorem dX5_mixes_62 : decode cX5_mixes 62 = .ok (.iload 6, 2) := by decide +kernel
theorem dX5_mixes_64 : decode cX5_mixes 64 = .ok (.aload_n 0, 1) := by decide +kernel
theorem dX5_mixes_65 : decode cX5_mixes 65 = .ok (.getfield 81, 3) := by decide +kernel
theorem dX5_mixes_68 : decode cX5_mixes 68 = .ok (.if_icmp .ge 111, 3) := by decide +kernel
theorem dX5_mixes_71 : decode cX5_mixes 71 = .ok (.iload 6, 2) := by decide +kernel
theorem dX5_mixes_73 : decode cX5_mixes 73 = .ok (.aload_n 0, 1) := by decide +kernel
theorem dX5_mixes_74 : decode cX5_mixes 74 = .ok (.getfield 81, 3) := by decide +kernel
theorem dX5_mixes_77 : decode cX5_mixes 77 = .ok (.iload 5, 2) := by decide +kernel
theorem dX5_mixes_79 : decode cX5_mixes 79 = .ok (.isub, 1) := by decide +kernel
theorem dX5_mixes_80 : decode cX5_mixes 80 = .ok (.if_icmp .ge 7, 3) := by decide +kernel
theorem dX5_mixes_83 : decode cX5_mixes 83 = .ok (.iload_n 1, 1) := by decide +kernel
theorem dX5_mixes_84 : decode cX5_mixes 84 = .ok (.goto 4, 3) := by decide +kernel
theorem dX5_mixes_87 : decode cX5_mixes 87 = .ok (.iload_n 3, 1) := by decide +kernel
theorem dX5_mixes_88 : decode cX5_mixes 88 = .ok (.istore 7, 2) := by decide +kernel
theorem dX5_mixes_90 : decode cX5_mixes 90 = .ok (.iload 6, 2) := by decide +kernel
theorem dX5_mixes_92 : decode cX5_mixes 92 = .ok (.aload_n 0, 1) := by decide +kernel
theorem dX5_mixes_93 : decode cX5_mixes 93 = .ok (.getfield 81, 3) := by decide +kernel
theorem dX5_mixes_96 : decode cX5_mixes 96 = .ok (.iload 5, 2) := by decide +kernel
theorem dX5_mixes_98 : decode cX5_mixes 98 = .ok (.isub, 1) := by decide +kernel
theorem dX5_mixes_99 : decode cX5_mixes 99 = .ok (.if_icmp .ge 7, 3) := by decide +kernel
theorem dX5_mixes_102 : decode cX5_mixes 102 = .ok (.iload_n 2, 1) := by decide +kernel
theorem dX5_mixes_103 : decode cX5_mixes 103 = .ok (.goto 5, 3) := by decide +kernel
theorem dX5_mixes_106 : decode cX5_mixes 106 = .ok (.iload 4, 2) := by decide +kernel
theorem dX5_mixes_108 : decode cX5_mixes 108 = .ok (.istore 8, 2) := by decide +kernel
theorem dX5_mixes_110 : decode cX5_mixes 110 = .ok (.iload 6, 2) := by decide +kernel
theorem dX5_mixes_112 : decode cX5_mixes 112 = .ok (.iconst 1, 1) := by decide +kernel
theorem dX5_mixes_113 : decode cX5_mixes 113 = .ok (.iadd, 1) := by decide +kernel
theorem dX5_mixes_114 : decode cX5_mixes 114 = .ok (.istore 9, 2) := by decide +kernel
theorem dX5_mixes_116 : decode cX5_mixes 116 = .ok (.iload 9, 2) := by decide +kernel
theorem dX5_mixes_118 : decode cX5_mixes 118 = .ok (.ifCond .lt 55, 3) := by decide +kernel
theorem dX5_mixes_121 : decode cX5_mixes 121 = .ok (.aload_n 0, 1) := by decide +kernel
theorem dX5_mixes_122 : decode cX5_mixes 122 = .ok (.getfield 31, 3) := by decide +kernel
theorem dX5_mixes_125 : decode cX5_mixes 125 = .ok (.iload 9, 2) := by decide +kernel
theorem dX5_mixes_127 : decode cX5_mixes 127 = .ok (.aload_n 0, 1) := by decide +kernel
theorem dX5_mixes_128 : decode cX5_mixes 128 = .ok (.getfield 31, 3) := by decide +kernel
theorem dX5_mixes_131 : decode cX5_mixes 131 = .ok (.iload 9, 2) := by decide +kernel
theorem dX5_mixes_133 : decode cX5_mixes 133 = .ok (.iaload, 1) := by decide +kernel
theorem dX5_mixes_134 : decode cX5_mixes 134 = .ok (.i2l, 1) := by decide +kernel
theorem dX5_mixes_135 : decode cX5_mixes 135 = .ok (.iload 7, 2) := by decide +kernel
theorem dX5_mixes_137 : decode cX5_mixes 137 = .ok (.i2l, 1) := by decide +kernel
theorem dX5_mixes_138 : decode cX5_mixes 138 = .ok (.lmul, 1) := by decide +kernel
theorem dX5_mixes_139 : decode cX5_mixes 139 = .ok (.iload 9, 2) := by decide +kernel
theorem dX5_mixes_141 : decode cX5_mixes 141 = .ok (.ifCond .le 20, 3) := by decide +kernel
theorem dX5_mixes_144 : decode cX5_mixes 144 = .ok (.aload_n 0, 1) := by decide +kernel
theorem dX5_mixes_145 : decode cX5_mixes 145 = .ok (.getfield 31, 3) := by decide +kernel
theorem dX5_mixes_148 : decode cX5_mixes 148 = .ok (.iload 9, 2) := by decide +kernel
theorem dX5_mixes_150 : decode cX5_mixes 150 = .ok (.iconst 1, 1) := by decide +kernel
theorem dX5_mixes_151 : decode cX5_mixes 151 = .ok (.isub, 1) := by decide +kernel
theorem dX5_mixes_152 : decode cX5_mixes 152 = .ok (.iaload, 1) := by decide +kernel
theorem dX5_mixes_153 : decode cX5_mixes 153 = .ok (.i2l, 1) := by decide +kernel
theorem dX5_mixes_154 : decode cX5_mixes 154 = .ok (.iload 8, 2) := by decide +kernel
theorem dX5_mixes_156 : decode cX5_mixes 156 = .ok (.i2l, 1) := by decide +kernel
theorem dX5_mixes_157 : decode cX5_mixes 157 = .ok (.lmul, 1) := by decide +kernel
theorem dX5_mixes_158 : decode cX5_mixes 158 = .ok (.goto 4, 3) := by decide +kernel
theorem dX5_mixes_161 : decode cX5_mixes 161 = .ok (.lconst 0, 1) := by decide +kernel
theorem dX5_mixes_162 : decode cX5_mixes 162 = .ok (.ladd, 1) := by decide +kernel
theorem dX5_mixes_163 : decode cX5_mixes 163 = .ok (.invokestatic 48, 3) := by decide +kernel
theorem dX5_mixes_166 : decode cX5_mixes 166 = .ok (.iastore, 1) := by decide +kernel
theorem dX5_mixes_167 : decode cX5_mixes 167 = .ok (.iinc 9 (-1), 3) := by decide +kernel
theorem dX5_mixes_170 : decode cX5_mixes 170 = .ok (.goto (-54), 3) := by decide +kernel
theorem dX5_mixes_173 : decode cX5_mixes 173 = .ok (.iinc 6 1, 3) := by decide +kernel
theorem dX5_mixes_176 : decode cX5_mixes 176 = .ok (.goto (-114), 3) := by decide +kernel
theorem dX5_mixes_179 : decode cX5_mixes 179 = .ok (.iconst 0, 1) := by decide +kernel
theorem dX5_mixes_180 : decode cX5_mixes 180 = .ok (.istore 6, 2) := by decide +kernel
theorem dX5_mixes_182 : decode cX5_mixes 182 = .ok (.iload 6, 2) := by decide +kernel
theorem dX5_mixes_184 : decode cX5_mixes 184 = .ok (.aload_n 0, 1) := by decide +kernel
theorem dX5_mixes_185 : decode cX5_mixes 185 = .ok (.getfield 81, 3) := by decide +kernel
theorem dX5_mixes_188 : decode cX5_mixes 188 = .ok (.if_icmp .gt 35, 3) := by decide +kernel
theorem dX5_mixes_191 : decode cX5_mixes 191 = .ok (.aload_n 0, 1) := by decide +kernel
theorem dX5_mixes_192 : decode cX5_mixes 192 = .ok (.getfield 28, 3) := by decide +kernel
theorem dX5_mixes_195 : decode cX5_mixes 195 = .ok (.iload 6, 2) := by decide +kernel
theorem dX5_mixes_197 : decode cX5_mixes 197 = .ok (.aload_n 0, 1) := by decide +kernel
theorem dX5_mixes_198 : decode cX5_mixes 198 = .ok (.getfield 28, 3) := by decide +kernel
theorem dX5_mixes_201 : decode cX5_mixes 201 = .ok (.iload 6, 2) := by decide +kernel
theorem dX5_mixes_203 : decode cX5_mixes 203 = .ok (.iaload, 1) := by decide +kernel
theorem dX5_mixes_204 : decode cX5_mixes 204 = .ok (.aload_n 0, 1) := by decide +kernel
theorem dX5_mixes_205 : decode cX5_mixes 205 = .ok (.getfield 31, 3) := by decide +kernel
theorem dX5_mixes_208 : decode cX5_mixes 208 = .ok (.iload 6, 2) := by decide +kernel
theorem dX5_mixes_210 : decode cX5_mixes 210 = .ok (.iaload, 1) := by decide +kernel
theorem dX5_mixes_211 : decode cX5_mixes 211 = .ok (.iadd, 1) := by decide +kernel
theorem dX5_mixes_212 : decode cX5_mixes 212 = .ok (.i2l, 1) := by decide +kernel
theorem dX5_mixes_213 : decode cX5_mixes 213 = .ok (.invokestatic 48, 3) := by decide +kernel
theorem dX5_mixes_216 : decode cX5_mixes 216 = .ok (.iastore, 1) := by decide +kernel
theorem dX5_mixes_217 : decode cX5_mixes 217 = .ok (.iinc 6 1, 3) := by decide +kernel
theorem dX5_mixes_220 : decode cX5_mixes 220 = .ok (.goto (-38), 3) := by decide +kernel
theorem dX5_mixes_223 : decode cX5_mixes 223 = .ok (.iinc 5 1, 3) := by decide +kernel
theorem dX5_mixes_226 : decode cX5_mixes 226 = .ok (.goto (-215), 3) := by decide +kernel
theorem dX5_mixes_229 : decode cX5_mixes 229 = .ok (.return_, 1) := by decide +kernel
theorem dX5_mix_0 : decode cX5_mix 0 = .ok (.iload_n 1, 1) := by decide +kernel
theorem dX5_mix_1 : decode cX5_mix 1 = .ok (.invokestatic 66, 3) := by decide +kernel
theorem dX5_mix_4 : decode cX5_mix 4 = .ok (.ifCond .eq 11, 3) := by decide +kernel
theorem dX5_mix_7 : decode cX5_mix 7 = .ok (.iload 6, 2) := by decide +kernel
theorem dX5_mix_9 : decode cX5_mix 9 = .ok (.invokestatic 66, 3) := by decide +kernel
theorem dX5_mix_12 : decode cX5_mix 12 = .ok (.ifCond .ne 6, 3) := by decide +kernel
theorem dX5_mix_15 : decode cX5_mix 15 = .ok (.bipush (-2), 2) := by decide +kernel
theorem dX5_mix_17 : decode cX5_mix 17 = .ok (.ireturn, 1) := by decide +kernel
theorem dX5_mix_18 : decode cX5_mix 18 = .ok (.aload_n 0, 1) := by decide +kernel
theorem dX5_mix_19 : decode cX5_mix 19 = .ok (.iload_n 1, 1) := by decide +kernel
theorem dX5_mix_20 : decode cX5_mix 20 = .ok (.invokevirtual 102, 3) := by decide +kernel
theorem dX5_mix_23 : decode cX5_mix 23 = .ok (.istore 7, 2) := by decide +kernel
theorem dX5_mix_25 : decode cX5_mix 25 = .ok (.iload 7, 2) := by decide +kernel
theorem dX5_mix_27 : decode cX5_mix 27 = .ok (.ifCond .eq 6, 3) := by decide +kernel
theorem dX5_mix_30 : decode cX5_mix 30 = .ok (.iload 7, 2) := by decide +kernel
theorem dX5_mix_32 : decode cX5_mix 32 = .ok (.ireturn, 1) := by decide +kernel
theorem dX5_mix_33 : decode cX5_mix 33 = .ok (.aload_n 0, 1) := by decide +kernel
theorem dX5_mix_34 : decode cX5_mix 34 = .ok (.iload_n 2, 1) := by decide +kernel
theorem dX5_mix_35 : decode cX5_mix 35 = .ok (.i2l, 1) := by decide +kernel
theorem dX5_mix_36 : decode cX5_mix 36 = .ok (.invokestatic 48, 3) := by decide +kernel
theorem dX5_mix_39 : decode cX5_mix 39 = .ok (.iload_n 3, 1) := by decide +kernel
theorem dX5_mix_40 : decode cX5_mix 40 = .ok (.i2l, 1) := by decide +kernel
theorem dX5_mix_41 : decode cX5_mix 41 = .ok (.invokestatic 48, 3) := by decide +kernel
theorem dX5_mix_44 : decode cX5_mix 44 = .ok (.iload 4, 2) := by decide +kernel
theorem dX5_mix_46 : decode cX5_mix 46 = .ok (.i2l, 1) := by decide +kernel
theorem dX5_mix_47 : decode cX5_mix 47 = .ok (.invokestatic 48, 3) := by decide +kernel
theorem dX5_mix_50 : decode cX5_mix 50 = .ok (.iload 5, 2) := by decide +kernel
theorem dX5_mix_52 : decode cX5_mix 52 = .ok (.i2l, 1) := by decide +kernel
theorem dX5_mix_53 : decode cX5_mix 53 = .ok (.invokestatic 48, 3) := by decide +kernel
theorem dX5_mix_56 : decode cX5_mix 56 = .ok (.invokevirtual 119, 3) := by decide +kernel
theorem dX5_mix_59 : decode cX5_mix 59 = .ok (.aload_n 0, 1) := by decide +kernel
theorem dX5_mix_60 : decode cX5_mix 60 = .ok (.iload 6, 2) := by decide +kernel
theorem dX5_mix_62 : decode cX5_mix 62 = .ok (.invokevirtual 116, 3) := by decide +kernel
theorem dX5_mix_65 : decode cX5_mix 65 = .ok (.istore 8, 2) := by decide +kernel
theorem dX5_mix_67 : decode cX5_mix 67 = .ok (.iload_n 2, 1) := by decide +kernel
theorem dX5_mix_68 : decode cX5_mix 68 = .ok (.i2l, 1) := by decide +kernel
theorem dX5_mix_69 : decode cX5_mix 69 = .ok (.invokestatic 48, 3) := by decide +kernel
theorem dX5_mix_72 : decode cX5_mix 72 = .ok (.iload 5, 2) := by decide +kernel
theorem dX5_mix_74 : decode cX5_mix 74 = .ok (.i2l, 1) := by decide +kernel
theorem dX5_mix_75 : decode cX5_mix 75 = .ok (.invokestatic 48, 3) := by decide +kernel
theorem dX5_mix_78 : decode cX5_mix 78 = .ok (.invokestatic 52, 3) := by decide +kernel
theorem dX5_mix_81 : decode cX5_mix 81 = .ok (.i2l, 1) := by decide +kernel
theorem dX5_mix_82 : decode cX5_mix 82 = .ok (.iload_n 3, 1) := by decide +kernel
theorem dX5_mix_83 : decode cX5_mix 83 = .ok (.i2l, 1) := by decide +kernel
theorem dX5_mix_84 : decode cX5_mix 84 = .ok (.invokestatic 48, 3) := by decide +kernel
theorem dX5_mix_87 : decode cX5_mix 87 = .ok (.iload 4, 2) := by decide +kernel
theorem dX5_mix_89 : decode cX5_mix 89 = .ok (.i2l, 1) := by decide +kernel
theorem dX5_mix_90 : decode cX5_mix 90 = .ok (.invokestatic 48, 3) := by decide +kernel
theorem dX5_mix_93 : decode cX5_mix 93 = .ok (.invokestatic 52, 3) := by decide +kernel
theorem dX5_mix_96 : decode cX5_mix 96 = .ok (.i2l, 1) := by decide +kernel
theorem dX5_mix_97 : decode cX5_mix 97 = .ok (.lsub, 1) := by decide +kernel
theorem dX5_mix_98 : decode cX5_mix 98 = .ok (.invokestatic 48, 3) := by decide +kernel
theorem dX5_mix_101 : decode cX5_mix 101 = .ok (.ireturn, 1) := by decide +kernel
theorem dX5_change_0 : decode cX5_change 0 = .ok (.iload_n 1, 1) := by decide +kernel
theorem dX5_change_1 : decode cX5_change 1 = .ok (.invokestatic 66, 3) := by decide +kernel
theorem dX5_change_4 : decode cX5_change 4 = .ok (.ifCond .eq 20, 3) := by decide +kernel
theorem dX5_change_7 : decode cX5_change 7 = .ok (.iload_n 2, 1) := by decide +kernel
theorem dX5_change_8 : decode cX5_change 8 = .ok (.i2l, 1) := by decide +kernel
theorem dX5_change_9 : decode cX5_change 9 = .ok (.lconst 0, 1) := by decide +kernel
theorem dX5_change_10 : decode cX5_change 10 = .ok (.lconst 1, 1) := by decide +kernel
theorem dX5_change_11 : decode cX5_change 11 = .ok (.invokestatic 62, 3) := by decide +kernel
theorem dX5_change_14 : decode cX5_change 14 = .ok (.ifCond .eq 10, 3) := by decide +kernel
theorem dX5_change_17 : decode cX5_change 17 = .ok (.iload_n 3, 1) := by decide +kernel
theorem dX5_change_18 : decode cX5_change 18 = .ok (.invokestatic 66, 3) := by decide +kernel
theorem dX5_change_21 : decode cX5_change 21 = .ok (.ifCond .ne 6, 3) := by decide +kernel
theorem dX5_change_24 : decode cX5_change 24 = .ok (.bipush (-2), 2) := by decide +kernel
theorem dX5_change_26 : decode cX5_change 26 = .ok (.ireturn, 1) := by decide +kernel
theorem dX5_change_27 : decode cX5_change 27 = .ok (.aload_n 0, 1) := by decide +kernel
theorem dX5_change_28 : decode cX5_change 28 = .ok (.iload_n 1, 1) := by decide +kernel
theorem dX5_change_29 : decode cX5_change 29 = .ok (.invokevirtual 102, 3) := by decide +kernel
theorem dX5_change_32 : decode cX5_change 32 = .ok (.istore 4, 2) := by decide +kernel
theorem dX5_change_34 : decode cX5_change 34 = .ok (.iload 4, 2) := by decide +kernel
theorem dX5_change_36 : decode cX5_change 36 = .ok (.ifCond .eq 6, 3) := by decide +kernel
theorem dX5_change_39 : decode cX5_change 39 = .ok (.iload 4, 2) := by decide +kernel
theorem dX5_change_41 : decode cX5_change 41 = .ok (.ireturn, 1) := by decide +kernel
theorem dX5_change_42 : decode cX5_change 42 = .ok (.aload_n 0, 1) := by decide +kernel
theorem dX5_change_43 : decode cX5_change 43 = .ok (.getfield 81, 3) := by decide +kernel
theorem dX5_change_46 : decode cX5_change 46 = .ok (.ifCond .ne 6, 3) := by decide +kernel
theorem dX5_change_49 : decode cX5_change 49 = .ok (.bipush (-3), 2) := by decide +kernel
theorem dX5_change_51 : decode cX5_change 51 = .ok (.ireturn, 1) := by decide +kernel
theorem dX5_change_52 : decode cX5_change 52 = .ok (.aload_n 0, 1) := by decide +kernel
theorem dX5_change_53 : decode cX5_change 53 = .ok (.aload_n 0, 1) := by decide +kernel
theorem dX5_change_54 : decode cX5_change 54 = .ok (.getfield 81, 3) := by decide +kernel
theorem dX5_change_57 : decode cX5_change 57 = .ok (.iconst 1, 1) := by decide +kernel
theorem dX5_change_58 : decode cX5_change 58 = .ok (.isub, 1) := by decide +kernel
theorem dX5_change_59 : decode cX5_change 59 = .ok (.invokevirtual 113, 3) := by decide +kernel
theorem dX5_change_62 : decode cX5_change 62 = .ok (.iconst 0, 1) := by decide +kernel
theorem dX5_change_63 : decode cX5_change 63 = .ok (.istore 5, 2) := by decide +kernel
theorem dX5_change_65 : decode cX5_change 65 = .ok (.iload 5, 2) := by decide +kernel
theorem dX5_change_67 : decode cX5_change 67 = .ok (.aload_n 0, 1) := by decide +kernel
theorem dX5_change_68 : decode cX5_change 68 = .ok (.getfield 81, 3) := by decide +kernel
theorem dX5_change_71 : decode cX5_change 71 = .ok (.if_icmp .ge 56, 3) := by decide +kernel
theorem dX5_change_74 : decode cX5_change 74 = .ok (.aload_n 0, 1) := by decide +kernel
theorem dX5_change_75 : decode cX5_change 75 = .ok (.getfield 28, 3) := by decide +kernel
theorem dX5_change_78 : decode cX5_change 78 = .ok (.iload 5, 2) := by decide +kernel
theorem dX5_change_80 : decode cX5_change 80 = .ok (.iload_n 2, 1) := by decide +kernel
theorem dX5_change_81 : decode cX5_change 81 = .ok (.ifCond .ne 23, 3) := by decide +kernel
theorem dX5_change_84 : decode cX5_change 84 = .ok (.aload_n 0, 1) := by decide +kernel
theorem dX5_change_85 : decode cX5_change 85 = .ok (.getfield 22, 3) := by decide +kernel
theorem dX5_change_88 : decode cX5_change 88 = .ok (.iload 5, 2) := by decide +kernel
theorem dX5_change_90 : decode cX5_change 90 = .ok (.iaload, 1) := by decide +kernel
theorem dX5_change_91 : decode cX5_change 91 = .ok (.aload_n 0, 1) := by decide +kernel
theorem dX5_change_92 : decode cX5_change 92 = .ok (.getfield 81, 3) := by decide +kernel
theorem dX5_change_95 : decode cX5_change 95 = .ok (.iload 5, 2) := by decide +kernel
theorem dX5_change_97 : decode cX5_change 97 = .ok (.isub, 1) := by decide +kernel
theorem dX5_change_98 : decode cX5_change 98 = .ok (.invokestatic 52, 3) := by decide +kernel
theorem dX5_change_101 : decode cX5_change 101 = .ok (.goto 19, 3) := by decide +kernel
theorem dX5_change_104 : decode cX5_change 104 = .ok (.aload_n 0, 1) := by decide +kernel
theorem dX5_change_105 : decode cX5_change 105 = .ok (.getfield 22, 3) := by decide +kernel
theorem dX5_change_108 : decode cX5_change 108 = .ok (.iload 5, 2) := by decide +kernel
theorem dX5_change_110 : decode cX5_change 110 = .ok (.iconst 1, 1) := by decide +kernel
theorem dX5_change_111 : decode cX5_change 111 = .ok (.iadd, 1) := by decide +kernel
theorem dX5_change_112 : decode cX5_change 112 = .ok (.iaload, 1) := by decide +kernel
theorem dX5_change_113 : decode cX5_change 113 = .ok (.iload 5, 2) := by decide +kernel
theorem dX5_change_115 : decode cX5_change 115 = .ok (.iconst 1, 1) := by decide +kernel
theorem dX5_change_116 : decode cX5_change 116 = .ok (.iadd, 1) := by decide +kernel
theorem dX5_change_117 : decode cX5_change 117 = .ok (.invokestatic 52, 3) := by decide +kernel
theorem dX5_change_120 : decode cX5_change 120 = .ok (.iastore, 1) := by decide +kernel
theorem dX5_change_121 : decode cX5_change 121 = .ok (.iinc 5 1, 3) := by decide +kernel
