theorem dX4_init_0 : decode cX4_init 0 = .ok (.aload_n 0, 1) := by decide +kernel
theorem dX4_init_1 : decode cX4_init 1 = .ok (.invokespecial 3, 3) := by decide +kernel
theorem dX4_init_4 : decode cX4_init 4 = .ok (.aload_n 0, 1) := by decide +kernel
theorem dX4_init_5 : decode cX4_init 5 = .ok (.bipush 10, 2) := by decide +kernel
theorem dX4_init_7 : decode cX4_init 7 = .ok (.anewarray 9, 3) := by decide +kernel
theorem dX4_init_10 : decode cX4_init 10 = .ok (.putfield 11, 3) := by decide +kernel
theorem dX4_init_13 : decode cX4_init 13 = .ok (.aload_n 0, 1) := by decide +kernel
theorem dX4_init_14 : decode cX4_init 14 = .ok (.iconst 0, 1) := by decide +kernel
theorem dX4_init_15 : decode cX4_init 15 = .ok (.putfield 15, 3) := by decide +kernel
theorem dX4_init_18 : decode cX4_init 18 = .ok (.aload_n 0, 1) := by decide +kernel
theorem dX4_init_19 : decode cX4_init 19 = .ok (.bipush 9, 2) := by decide +kernel
theorem dX4_init_21 : decode cX4_init 21 = .ok (.newarray .int, 2) := by decide +kernel
theorem dX4_init_23 : decode cX4_init 23 = .ok (.putfield 19, 3) := by decide +kernel
theorem dX4_init_26 : decode cX4_init 26 = .ok (.aload_n 0, 1) := by decide +kernel
theorem dX4_init_27 : decode cX4_init 27 = .ok (.bipush 9, 2) := by decide +kernel
theorem dX4_init_29 : decode cX4_init 29 = .ok (.newarray .int, 2) := by decide +kernel
theorem dX4_init_31 : decode cX4_init 31 = .ok (.putfield 23, 3) := by decide +kernel
theorem dX4_init_34 : decode cX4_init 34 = .ok (.aload_n 0, 1) := by decide +kernel
theorem dX4_init_35 : decode cX4_init 35 = .ok (.bipush 9, 2) := by decide +kernel
theorem dX4_init_37 : decode cX4_init 37 = .ok (.newarray .int, 2) := by decide +kernel
theorem dX4_init_39 : decode cX4_init 39 = .ok (.putfield 26, 3) := by decide +kernel
theorem dX4_init_42 : decode cX4_init 42 = .ok (.aload_n 0, 1) := by decide +kernel
theorem dX4_init_43 : decode cX4_init 43 = .ok (.bipush 9, 2) := by decide +kernel
theorem dX4_init_45 : decode cX4_init 45 = .ok (.newarray .int, 2) := by decide +kernel
theorem dX4_init_47 : decode cX4_init 47 = .ok (.putfield 29, 3) := by decide +kernel
theorem dX4_init_50 : decode cX4_init 50 = .ok (.aload_n 0, 1) := by decide +kernel
theorem dX4_init_51 : decode cX4_init 51 = .ok (.bipush 9, 2) := by decide +kernel
theorem dX4_init_53 : decode cX4_init 53 = .ok (.newarray .int, 2) := by decide +kernel
theorem dX4_init_55 : decode cX4_init 55 = .ok (.putfield 32, 3) := by decide +kernel
theorem dX4_init_58 : decode cX4_init 58 = .ok (.aload_n 0, 1) := by decide +kernel
theorem dX4_init_59 : decode cX4_init 59 = .ok (.new 35, 3) := by decide +kernel
theorem dX4_init_62 : decode cX4_init 62 = .ok (.dup, 1) := by decide +kernel
theorem dX4_init_63 : decode cX4_init 63 = .ok (.invokespecial 37, 3) := by decide +kernel
theorem dX4_init_66 : decode cX4_init 66 = .ok (.putfield 38, 3) := by decide +kernel
theorem dX4_init_69 : decode cX4_init 69 = .ok (.aload_n 0, 1) := by decide +kernel
theorem dX4_init_70 : decode cX4_init 70 = .ok (.sipush 297, 3) := by decide +kernel
theorem dX4_init_73 : decode cX4_init 73 = .ok (.newarray .int, 2) := by decide +kernel
theorem dX4_init_75 : decode cX4_init 75 = .ok (.putfield 42, 3) := by decide +kernel
theorem dX4_init_78 : decode cX4_init 78 = .ok (.iconst 0, 1) := by decide +kernel
theorem dX4_init_79 : decode cX4_init 79 = .ok (.istore_n 1, 1) := by decide +kernel
theorem dX4_init_80 : decode cX4_init 80 = .ok (.iload_n 1, 1) := by decide +kernel
theorem dX4_init_81 : decode cX4_init 81 = .ok (.bipush 10, 2) := by decide +kernel
theorem dX4_init_83 : decode cX4_init 83 = .ok (.if_icmp .ge 22, 3) := by decide +kernel
theorem dX4_init_86 : decode cX4_init 86 = .ok (.aload_n 0, 1) := by decide +kernel
theorem dX4_init_87 : decode cX4_init 87 = .ok (.getfield 11, 3) := by decide +kernel
theorem dX4_init_90 : decode cX4_init 90 = .ok (.iload_n 1, 1) := by decide +kernel
theorem dX4_init_91 : decode cX4_init 91 = .ok (.new 9, 3) := by decide +kernel
theorem dX4_init_94 : decode cX4_init 94 = .ok (.dup, 1) := by decide +kernel
theorem dX4_init_95 : decode cX4_init 95 = .ok (.invokespecial 45, 3) := by decide +kernel
theorem dX4_init_98 : decode cX4_init 98 = .ok (.aastore, 1) := by decide +kernel
theorem dX4_init_99 : decode cX4_init 99 = .ok (.iinc 1 1, 3) := by decide +kernel
theorem dX4_init_102 : decode cX4_init 102 = .ok (.goto (-22), 3) := by decide +kernel
theorem dX4_init_105 : decode cX4_init 105 = .ok (.return_, 1) := by decide +kernel
theorem dX4_sheet_0 : decode cX4_sheet 0 = .ok (.iload_n 1, 1) := by decide +kernel
theorem dX4_sheet_1 : decode cX4_sheet 1 = .ok (.invokestatic 46, 3) := by decide +kernel
theorem dX4_sheet_4 : decode cX4_sheet 4 = .ok (.ifCond .ne 16, 3) := by decide +kernel
theorem dX4_sheet_7 : decode cX4_sheet 7 = .ok (.iload_n 2, 1) := by decide +kernel
theorem dX4_sheet_8 : decode cX4_sheet 8 = .ok (.invokestatic 50, 3) := by decide +kernel
theorem dX4_sheet_11 : decode cX4_sheet 11 = .ok (.ifCond .ne 9, 3) := by decide +kernel
theorem dX4_sheet_14 : decode cX4_sheet 14 = .ok (.iload_n 3, 1) := by decide +kernel
theorem dX4_sheet_15 : decode cX4_sheet 15 = .ok (.bipush 12, 2) := by decide +kernel
theorem dX4_sheet_17 : decode cX4_sheet 17 = .ok (.if_icmp .le 6, 3) := by decide +kernel
theorem dX4_sheet_20 : decode cX4_sheet 20 = .ok (.bipush (-2), 2) := by decide +kernel
theorem dX4_sheet_22 : decode cX4_sheet 22 = .ok (.ireturn, 1) := by decide +kernel
theorem dX4_sheet_23 : decode cX4_sheet 23 = .ok (.iload_n 3, 1) := by decide +kernel
theorem dX4_sheet_24 : decode cX4_sheet 24 = .ok (.ifCond .ge 9, 3) := by decide +kernel
theorem dX4_sheet_27 : decode cX4_sheet 27 = .ok (.aload_n 0, 1) := by decide +kernel
theorem dX4_sheet_28 : decode cX4_sheet 28 = .ok (.iconst 5, 1) := by decide +kernel
theorem dX4_sheet_29 : decode cX4_sheet 29 = .ok (.invokevirtual 53, 3) := by decide +kernel
theorem dX4_sheet_32 : decode cX4_sheet 32 = .ok (.ireturn, 1) := by decide +kernel
theorem dX4_sheet_33 : decode cX4_sheet 33 = .ok (.aload_n 0, 1) := by decide +kernel
theorem dX4_sheet_34 : decode cX4_sheet 34 = .ok (.getfield 11, 3) := by decide +kernel
theorem dX4_sheet_37 : decode cX4_sheet 37 = .ok (.iload_n 1, 1) := by decide +kernel
theorem dX4_sheet_38 : decode cX4_sheet 38 = .ok (.aaload, 1) := by decide +kernel
theorem dX4_sheet_39 : decode cX4_sheet 39 = .ok (.iload_n 2, 1) := by decide +kernel
theorem dX4_sheet_40 : decode cX4_sheet 40 = .ok (.iload_n 3, 1) := by decide +kernel
theorem dX4_sheet_41 : decode cX4_sheet 41 = .ok (.invokevirtual 57, 3) := by decide +kernel
theorem dX4_sheet_44 : decode cX4_sheet 44 = .ok (.iload_n 3, 1) := by decide +kernel
theorem dX4_sheet_45 : decode cX4_sheet 45 = .ok (.ireturn, 1) := by decide +kernel
theorem dX4_lose_0 : decode cX4_lose 0 = .ok (.aload_n 0, 1) := by decide +kernel
theorem dX4_lose_1 : decode cX4_lose 1 = .ok (.iload_n 1, 1) := by decide +kernel
theorem dX4_lose_2 : decode cX4_lose 2 = .ok (.iload_n 1, 1) := by decide +kernel
theorem dX4_lose_3 : decode cX4_lose 3 = .ok (.invokevirtual 61, 3) := by decide +kernel
theorem dX4_lose_6 : decode cX4_lose 6 = .ok (.istore_n 2, 1) := by decide +kernel
theorem dX4_lose_7 : decode cX4_lose 7 = .ok (.iload_n 2, 1) := by decide +kernel
theorem dX4_lose_8 : decode cX4_lose 8 = .ok (.ifCond .eq 5, 3) := by decide +kernel
theorem dX4_lose_11 : decode cX4_lose 11 = .ok (.iload_n 2, 1) := by decide +kernel
theorem dX4_lose_12 : decode cX4_lose 12 = .ok (.ireturn, 1) := by decide +kernel
theorem dX4_lose_13 : decode cX4_lose 13 = .ok (.aload_n 0, 1) := by decide +kernel
theorem dX4_lose_14 : decode cX4_lose 14 = .ok (.getfield 11, 3) := by decide +kernel
theorem dX4_lose_17 : decode cX4_lose 17 = .ok (.iload_n 1, 1) := by decide +kernel
theorem dX4_lose_18 : decode cX4_lose 18 = .ok (.aaload, 1) := by decide +kernel
theorem dX4_lose_19 : decode cX4_lose 19 = .ok (.getfield 65, 3) := by decide +kernel
theorem dX4_lose_22 : decode cX4_lose 22 = .ok (.istore_n 3, 1) := by decide +kernel
theorem dX4_lose_23 : decode cX4_lose 23 = .ok (.aload_n 0, 1) := by decide +kernel
theorem dX4_lose_24 : decode cX4_lose 24 = .ok (.getfield 11, 3) := by decide +kernel
theorem dX4_lose_27 : decode cX4_lose 27 = .ok (.iload_n 1, 1) := by decide +kernel
theorem dX4_lose_28 : decode cX4_lose 28 = .ok (.aaload, 1) := by decide +kernel
theorem dX4_lose_29 : decode cX4_lose 29 = .ok (.invokevirtual 68, 3) := by decide +kernel
theorem dX4_lose_32 : decode cX4_lose 32 = .ok (.iload_n 3, 1) := by decide +kernel
theorem dX4_lose_33 : decode cX4_lose 33 = .ok (.ireturn, 1) := by decide +kernel
theorem dX4_put_0 : decode cX4_put 0 = .ok (.aload_n 0, 1) := by decide +kernel
theorem dX4_put_1 : decode cX4_put 1 = .ok (.iload_n 1, 1) := by decide +kernel
theorem dX4_put_2 : decode cX4_put 2 = .ok (.iload_n 2, 1) := by decide +kernel
theorem dX4_put_3 : decode cX4_put 3 = .ok (.iload_n 3, 1) := by decide +kernel
theorem dX4_put_4 : decode cX4_put 4 = .ok (.invokevirtual 71, 3) := by decide +kernel
theorem dX4_put_7 : decode cX4_put 7 = .ok (.istore 5, 2) := by decide +kernel
theorem dX4_put_9 : decode cX4_put 9 = .ok (.iload 5, 2) := by decide +kernel
theorem dX4_put_11 : decode cX4_put 11 = .ok (.ifCond .eq 6, 3) := by decide +kernel
theorem dX4_put_14 : decode cX4_put 14 = .ok (.iload 5, 2) := by decide +kernel
theorem dX4_put_16 : decode cX4_put 16 = .ok (.ireturn, 1) := by decide +kernel
theorem dX4_put_17 : decode cX4_put 17 = .ok (.aload_n 0, 1) := by decide +kernel
theorem dX4_put_18 : decode cX4_put 18 = .ok (.getfield 11, 3) := by decide +kernel
theorem dX4_put_21 : decode cX4_put 21 = .ok (.iload_n 1, 1) := by decide +kernel
theorem dX4_put_22 : decode cX4_put 22 = .ok (.aaload, 1) := by decide +kernel
theorem dX4_put_23 : decode cX4_put 23 = .ok (.iload_n 3, 1) := by decide +kernel
theorem dX4_put_24 : decode cX4_put 24 = .ok (.iload 4, 2) := by decide +kernel
theorem dX4_put_26 : decode cX4_put 26 = .ok (.invokevirtual 75, 3) := by decide +kernel
theorem dX4_put_29 : decode cX4_put 29 = .ok (.iconst 1, 1) := by decide +kernel
theorem dX4_put_30 : decode cX4_put 30 = .ok (.ireturn, 1) := by decide +kernel
theorem dX4_get_0 : decode cX4_get 0 = .ok (.aload_n 0, 1) := by decide +kernel
theorem dX4_get_1 : decode cX4_get 1 = .ok (.iload_n 1, 1) := by decide +kernel
theorem dX4_get_2 : decode cX4_get 2 = .ok (.iload_n 2, 1) := by decide +kernel
theorem dX4_get_3 : decode cX4_get 3 = .ok (.iload_n 3, 1) := by decide +kernel
theorem dX4_get_4 : decode cX4_get 4 = .ok (.invokevirtual 71, 3) := by decide +kernel
theorem dX4_get_7 : decode cX4_get 7 = .ok (.ifCond .ne 17, 3) := by decide +kernel
theorem dX4_get_10 : decode cX4_get 10 = .ok (.aload_n 0, 1) := by decide +kernel
theorem dX4_get_11 : decode cX4_get 11 = .ok (.getfield 11, 3) := by decide +kernel
theorem dX4_get_14 : decode cX4_get 14 = .ok (.iload_n 1, 1) := by decide +kernel
theorem dX4_get_15 : decode cX4_get 15 = .ok (.aaload, 1) := by decide +kernel
theorem dX4_get_16 : decode cX4_get 16 = .ok (.getfield 78, 3) := by decide +kernel
theorem dX4_get_19 : decode cX4_get 19 = .ok (.iload_n 3, 1) := by decide +kernel
theorem dX4_get_20 : decode cX4_get 20 = .ok (.iaload, 1) := by decide +kernel
theorem dX4_get_21 : decode cX4_get 21 = .ok (.goto 5, 3) := by decide +kernel
theorem dX4_get_24 : decode cX4_get 24 = .ok (.ldc 81, 2) := by decide +kernel
theorem dX4_get_26 : decode cX4_get 26 = .ok (.ireturn, 1) := by decide +kernel
theorem dX4_copy_0 : decode cX4_copy 0 = .ok (.aload_n 0, 1) := by decide +kernel
theorem dX4_copy_1 : decode cX4_copy 1 = .ok (.iload_n 1, 1) := by decide +kernel
theorem dX4_copy_2 : decode cX4_copy 2 = .ok (.iload_n 3, 1) := by decide +kernel
theorem dX4_copy_3 : decode cX4_copy 3 = .ok (.invokevirtual 61, 3) := by decide +kernel
theorem dX4_copy_6 : decode cX4_copy 6 = .ok (.istore 6, 2) := by decide +kernel
theorem dX4_copy_8 : decode cX4_copy 8 = .ok (.iload 6, 2) := by decide +kernel
theorem dX4_copy_10 : decode cX4_copy 10 = .ok (.ifCond .eq 6, 3) := by decide +kernel
theorem dX4_copy_13 : decode cX4_copy 13 = .ok (.iload 6, 2) := by decide +kernel
theorem dX4_copy_15 : decode cX4_copy 15 = .ok (.ireturn, 1) := by decide +kernel
theorem dX4_copy_16 : decode cX4_copy 16 = .ok (.aload_n 0, 1) := by decide +kernel
theorem dX4_copy_17 : decode cX4_copy 17 = .ok (.getfield 11, 3) := by decide +kernel
theorem dX4_copy_20 : decode cX4_copy 20 = .ok (.iload_n 1, 1) := by decide +kernel
theorem dX4_copy_21 : decode cX4_copy 21 = .ok (.aaload, 1) := by decide +kernel
theorem dX4_copy_22 : decode cX4_copy 22 = .ok (.astore 7, 2) := by decide +kernel
theorem dX4_copy_24 : decode cX4_copy 24 = .ok (.aload_n 0, 1) := by decide +kernel
theorem dX4_copy_25 : decode cX4_copy 25 = .ok (.getfield 11, 3) := by decide +kernel
theorem dX4_copy_28 : decode cX4_copy 28 = .ok (.iload_n 3, 1) := by decide +kernel
theorem dX4_copy_29 : decode cX4_copy 29 = .ok (.aaload, 1) := by decide +kernel
theorem dX4_copy_30 : decode cX4_copy 30 = .ok (.astore 8, 2) := by decide +kernel
theorem dX4_copy_32 : decode cX4_copy 32 = .ok (.aload 7, 2) := by decide +kernel
theorem dX4_copy_34 : decode cX4_copy 34 = .ok (.getfield 82, 3) := by decide +kernel
theorem dX4_copy_37 : decode cX4_copy 37 = .ok (.aload 8, 2) := by decide +kernel
theorem dX4_copy_39 : decode cX4_copy 39 = .ok (.getfield 82, 3) := by decide +kernel
theorem dX4_copy_42 : decode cX4_copy 42 = .ok (.if_icmp .eq 9, 3) := by decide +kernel
theorem dX4_copy_45 : decode cX4_copy 45 = .ok (.aload_n 0, 1) := by decide +kernel
theorem dX4_copy_46 : decode cX4_copy 46 = .ok (.iconst 4, 1) := by decide +kernel
theorem dX4_copy_47 : decode cX4_copy 47 = .ok (.invokevirtual 53, 3) := by decide +kernel
theorem dX4_copy_50 : decode cX4_copy 50 = .ok (.ireturn, 1) := by decide +kernel
theorem dX4_copy_51 : decode cX4_copy 51 = .ok (.aload 7, 2) := by decide +kernel
theorem dX4_copy_53 : decode cX4_copy 53 = .ok (.iload_n 2, 1) := by decide +kernel
theorem dX4_copy_54 : decode cX4_copy 54 = .ok (.iload 5, 2) := by decide +kernel
theorem dX4_copy_56 : decode cX4_copy 56 = .ok (.invokevirtual 85, 3) := by decide +kernel
theorem dX4_copy_59 : decode cX4_copy 59 = .ok (.ifCond .eq 15, 3) := by decide +kernel
theorem dX4_copy_62 : decode cX4_copy 62 = .ok (.aload 8, 2) := by decide +kernel
theorem dX4_copy_64 : decode cX4_copy 64 = .ok (.iload 4, 2) := by decide +kernel
theorem dX4_copy_66 : decode cX4_copy 66 = .ok (.iload 5, 2) := by decide +kernel
theorem dX4_copy_68 : decode cX4_copy 68 = .ok (.invokevirtual 85, 3) := by decide +kernel
theorem dX4_copy_71 : decode cX4_copy 71 = .ok (.ifCond .ne 9, 3) := by decide +kernel
theorem dX4_copy_74 : decode cX4_copy 74 = .ok (.aload_n 0, 1) := by decide +kernel
theorem dX4_copy_75 : decode cX4_copy 75 = .ok (.iconst 2, 1) := by decide +kernel
theorem dX4_copy_76 : decode cX4_copy 76 = .ok (.invokevirtual 53, 3) := by decide +kernel
theorem dX4_copy_79 : decode cX4_copy 79 = .ok (.ireturn, 1) := by decide +kernel
theorem dX4_copy_80 : decode cX4_copy 80 = .ok (.aload 7, 2) := by decide +kernel
theorem dX4_copy_82 : decode cX4_copy 82 = .ok (.getfield 78, 3) := by decide +kernel
theorem dX4_copy_85 : decode cX4_copy 85 = .ok (.iload_n 2, 1) := by decide +kernel
theorem dX4_copy_86 : decode cX4_copy 86 = .ok (.aload 8, 2) := by decide +kernel
theorem dX4_copy_88 : decode cX4_copy 88 = .ok (.getfield 78, 3) := by decide +kernel
theorem dX4_copy_91 : decode cX4_copy 91 = .ok (.iload 4, 2) := by decide +kernel
theorem dX4_copy_93 : decode cX4_copy 93 = .ok (.iload 5, 2) := by decide +kernel
theorem dX4_copy_95 : decode cX4_copy 95 = .ok (.invokestatic 89, 3) := by decide +kernel
theorem dX4_copy_98 : decode cX4_copy 98 = .ok (.iconst 1, 1) := by decide +kernel
theorem dX4_copy_99 : decode cX4_copy 99 = .ok (.ireturn, 1) := by decide +kernel
theorem dX4_term_0 : decode cX4_term 0 = .ok (.iload_n 2, 1) := by decide +kernel
theorem dX4_term_1 : decode cX4_term 1 = .ok (.ifCond .lt 9, 3) := by decide +kernel
theorem dX4_term_4 : decode cX4_term 4 = .ok (.iload_n 2, 1) := by decide +kernel
theorem dX4_term_5 : decode cX4_term 5 = .ok (.bipush 8, 2) := by decide +kernel
theorem dX4_term_7 : decode cX4_term 7 = .ok (.if_icmp .le 6, 3) := by decide +kernel
theorem dX4_term_10 : decode cX4_term 10 = .ok (.bipush (-2), 2) := by decide +kernel
theorem dX4_term_12 : decode cX4_term 12 = .ok (.ireturn, 1) := by decide +kernel
theorem dX4_term_13 : decode cX4_term 13 = .ok (.aload_n 0, 1) := by decide +kernel
theorem dX4_term_14 : decode cX4_term 14 = .ok (.iload_n 1, 1) := by decide +kernel
theorem dX4_term_15 : decode cX4_term 15 = .ok (.iload_n 1, 1) := by decide +kernel
theorem dX4_term_16 : decode cX4_term 16 = .ok (.invokevirtual 95, 3) := by decide +kernel
theorem dX4_term_19 : decode cX4_term 19 = .ok (.istore_n 3, 1) := by decide +kernel
theorem dX4_term_20 : decode cX4_term 20 = .ok (.iload_n 3, 1) := by decide +kernel
theorem dX4_term_21 : decode cX4_term 21 = .ok (.ifCond .eq 7, 3) := by decide +kernel
theorem dX4_term_24 : decode cX4_term 24 = .ok (.iload_n 3, 1) := by decide +kernel
theorem dX4_term_25 : decode cX4_term 25 = .ok (.goto 13, 3) := by decide +kernel
theorem dX4_term_28 : decode cX4_term 28 = .ok (.aload_n 0, 1) := by decide +kernel
theorem dX4_term_29 : decode cX4_term 29 = .ok (.getfield 11, 3) := by decide +kernel
theorem dX4_term_32 : decode cX4_term 32 = .ok (.iload_n 1, 1) := by decide +kernel
theorem dX4_term_33 : decode cX4_term 33 = .ok (.aaload, 1) := by decide +kernel
theorem dX4_term_34 : decode cX4_term 34 = .ok (.iload_n 2, 1) := by decide +kernel
theorem dX4_term_35 : decode cX4_term 35 = .ok (.invokevirtual 98, 3) := by decide +kernel
theorem dX4_term_38 : decode cX4_term 38 = .ok (.ireturn, 1) := by decide +kernel
theorem dX4_degree_0 : decode cX4_degree 0 = .ok (.aload_n 0, 1) := by decide +kernel
theorem dX4_degree_1 : decode cX4_degree 1 = .ok (.iload_n 1, 1) := by decide +kernel
theorem dX4_degree_2 : decode cX4_degree 2 = .ok (.iload_n 1, 1) := by decide +kernel
theorem dX4_degree_3 : decode cX4_degree 3 = .ok (.invokevirtual 95, 3) := by decide +kernel
theorem dX4_degree_6 : decode cX4_degree 6 = .ok (.istore_n 2, 1) := by decide +kernel
theorem dX4_degree_7 : decode cX4_degree 7 = .ok (.iload_n 2, 1) := by decide +kernel
theorem dX4_degree_8 : decode cX4_degree 8 = .ok (.ifCond .eq 7, 3) := by decide +kernel
theorem dX4_degree_11 : decode cX4_degree 11 = .ok (.iload_n 2, 1) := by decide +kernel
theorem dX4_degree_12 : decode cX4_degree 12 = .ok (.goto 12, 3) := by decide +kernel
theorem dX4_degree_15 : decode cX4_degree 15 = .ok (.aload_n 0, 1) := by decide +kernel
theorem dX4_degree_16 : decode cX4_degree 16 = .ok (.getfield 11, 3) := by decide +kernel
theorem dX4_degree_19 : decode cX4_degree 19 = .ok (.iload_n 1, 1) := by decide +kernel
theorem dX4_degree_20 : decode cX4_degree 20 = .ok (.aaload, 1) := by decide +kernel
theorem dX4_degree_21 : decode cX4_degree 21 = .ok (.invokevirtual 101, 3) := by decide +kernel
theorem dX4_degree_24 : decode cX4_degree 24 = .ok (.ireturn, 1) := by decide +kernel
theorem dX4_value_0 : decode cX4_value 0 = .ok (.aload_n 0, 1) := by decide +kernel
theorem dX4_value_1 : decode cX4_value 1 = .ok (.iload_n 1, 1) := by decide +kernel
theorem dX4_value_2 : decode cX4_value 2 = .ok (.iload_n 1, 1) := by decide +kernel
theorem dX4_value_3 : decode cX4_value 3 = .ok (.invokevirtual 95, 3) := by decide +kernel
theorem dX4_value_6 : decode cX4_value 6 = .ok (.istore 4, 2) := by decide +kernel
theorem dX4_value_8 : decode cX4_value 8 = .ok (.iload 4, 2) := by decide +kernel
theorem dX4_value_10 : decode cX4_value 10 = .ok (.ifCond .eq 6, 3) := by decide +kernel
theorem dX4_value_13 : decode cX4_value 13 = .ok (.iload 4, 2) := by decide +kernel
theorem dX4_value_15 : decode cX4_value 15 = .ok (.ireturn, 1) := by decide +kernel
theorem dX4_value_16 : decode cX4_value 16 = .ok (.aload_n 0, 1) := by decide +kernel
theorem dX4_value_17 : decode cX4_value 17 = .ok (.iload_n 1, 1) := by decide +kernel
theorem dX4_value_18 : decode cX4_value 18 = .ok (.aload_n 0, 1) := by decide +kernel
theorem dX4_value_19 : decode cX4_value 19 = .ok (.getfield 19, 3) := by decide +kernel
theorem dX4_value_22 : decode cX4_value 22 = .ok (.invokevirtual 105, 3) := by decide +kernel
theorem dX4_value_25 : decode cX4_value 25 = .ok (.istore 5, 2) := by decide +kernel
theorem dX4_value_27 : decode cX4_value 27 = .ok (.aload_n 0, 1) := by decide +kernel
theorem dX4_value_28 : decode cX4_value 28 = .ok (.getfield 19, 3) := by decide +kernel
theorem dX4_value_31 : decode cX4_value 31 = .ok (.iload 5, 2) := by decide +kernel
theorem dX4_value_33 : decode cX4_value 33 = .ok (.iload_n 2, 1) := by decide +kernel
theorem dX4_value_34 : decode cX4_value 34 = .ok (.invokestatic 109, 3) := by decide +kernel
theorem dX4_value_37 : decode cX4_value 37 = .ok (.iload_n 3, 1) := by decide +kernel
theorem dX4_value_38 : decode cX4_value 38 = .ok (.invokestatic 109, 3) := by decide +kernel
theorem dX4_value_41 : decode cX4_value 41 = .ok (.invokestatic 114, 3) := by decide +kernel
theorem dX4_value_44 : decode cX4_value 44 = .ok (.ireturn, 1) := by decide +kernel
theorem dX4_join_0 : decode cX4_join 0 = .ok (.iload_n 3, 1) := by decide +kernel
theorem dX4_join_1 : decode cX4_join 1 = .ok (.invokestatic 46, 3) := by decide +kernel
theorem dX4_join_4 : decode cX4_join 4 = .ok (.ifCond .ne 14, 3) := by decide +kernel
theorem dX4_join_7 : decode cX4_join 7 = .ok (.iload 4, 2) := by decide +kernel
theorem dX4_join_9 : decode cX4_join 9 = .ok (.ifCond .lt 9, 3) := by decide +kernel
theorem dX4_join_12 : decode cX4_join 12 = .ok (.iload 4, 2) := by decide +kernel
theorem dX4_join_14 : decode cX4_join 14 = .ok (.iconst 3, 1) := by decide +kernel
theorem dX4_join_15 : decode cX4_join 15 = .ok (.if_icmp .le 6, 3) := by decide +kernel
theorem dX4_join_18 : decode cX4_join 18 = .ok (.bipush (-2), 2) := by decide +kernel
theorem dX4_join_20 : decode cX4_join 20 = .ok (.ireturn, 1) := by decide +kernel
theorem dX4_join_21 : decode cX4_join 21 = .ok (.aload_n 0, 1) := by decide +kernel
theorem dX4_join_22 : decode cX4_join 22 = .ok (.iload_n 1, 1) := by decide +kernel
theorem dX4_join_23 : decode cX4_join 23 = .ok (.iload_n 2, 1) := by decide +kernel
theorem dX4_join_24 : decode cX4_join 24 = .ok (.invokevirtual 95, 3) := by decide +kernel
theorem dX4_join_27 : decode cX4_join 27 = .ok (.istore 5, 2) := by decide +kernel
theorem dX4_join_29 : decode cX4_join 29 = .ok (.iload 5, 2) := by decide +kernel
theorem dX4_join_31 : decode cX4_join 31 = .ok (.ifCond .eq 6, 3) := by decide +kernel
theorem dX4_join_34 : decode cX4_join 34 = .ok (.iload 5, 2) := by decide +kernel
theorem dX4_join_36 : decode cX4_join 36 = .ok (.ireturn, 1) := by decide +kernel
theorem dX4_join_37 : decode cX4_join 37 = .ok (.aload_n 0, 1) := by decide +kernel
theorem dX4_join_38 : decode cX4_join 38 = .ok (.iload_n 1, 1) := by decide +kernel
theorem dX4_join_39 : decode cX4_join 39 = .ok (.aload_n 0, 1) := by decide +kernel
theorem dX4_join_40 : decode cX4_join 40 = .ok (.getfield 19, 3) := by decide +kernel
theorem dX4_join_43 : decode cX4_join 43 = .ok (.invokevirtual 105, 3) := by decide +kernel
theorem dX4_join_46 : decode cX4_join 46 = .ok (.istore 6, 2) := by decide +kernel
theorem dX4_join_48 : decode cX4_join 48 = .ok (.aload_n 0, 1) := by decide +kernel
theorem dX4_join_49 : decode cX4_join 49 = .ok (.iload_n 2, 1) := by decide +kernel
theorem dX4_join_50 : decode cX4_join 50 = .ok (.aload_n 0, 1) := by decide +kernel
theorem dX4_join_51 : decode cX4_join 51 = .ok (.getfield 23, 3) := by decide +kernel
theorem dX4_join_54 : decode cX4_join 54 = .ok (.invokevirtual 105, 3) := by decide +kernel
theorem dX4_join_57 : decode cX4_join 57 = .ok (.istore 7, 2) := by decide +kernel
theorem dX4_join_59 : decode cX4_join 59 = .ok (.iload 6, 2) := by decide +kernel
theorem dX4_join_61 : decode cX4_join 61 = .ok (.iload 7, 2) := by decide +kernel
theorem dX4_join_63 : decode cX4_join 63 = .ok (.iload 4, 2) := by decide +kernel
theorem dX4_join_65 : decode cX4_join 65 = .ok (.invokestatic 120, 3) := by decide +kernel
theorem dX4_join_68 : decode cX4_join 68 = .ok (.ifCond .ne 6, 3) := by decide +kernel
theorem dX4_join_71 : decode cX4_join 71 = .ok (.bipush (-3), 2) := by decide +kernel
theorem dX4_join_73 : decode cX4_join 73 = .ok (.ireturn, 1) := by decide +kernel
theorem dX4_join_74 : decode cX4_join 74 = .ok (.aload_n 0, 1) := by decide +kernel
theorem dX4_join_75 : decode cX4_join 75 = .ok (.iload 6, 2) := by decide +kernel
theorem dX4_join_77 : decode cX4_join 77 = .ok (.iload 7, 2) := by decide +kernel
theorem dX4_join_79 : decode cX4_join 79 = .ok (.iload 4, 2) := by decide +kernel
theorem dX4_join_81 : decode cX4_join 81 = .ok (.invokevirtual 124, 3) := by decide +kernel
theorem dX4_join_84 : decode cX4_join 84 = .ok (.aload_n 0, 1) := by decide +kernel
theorem dX4_join_85 : decode cX4_join 85 = .ok (.iload_n 3, 1) := by decide +kernel
theorem dX4_join_86 : decode cX4_join 86 = .ok (.iload 4, 2) := by decide +kernel
theorem dX4_join_88 : decode cX4_join 88 = .ok (.iconst 2, 1) := by decide +kernel
theorem dX4_join_89 : decode cX4_join 89 = .ok (.if_icmp .ne 11, 3) := by decide +kernel
theorem dX4_join_92 : decode cX4_join 92 = .ok (.iload 6, 2) := by decide +kernel
theorem dX4_join_94 : decode cX4_join 94 = .ok (.iload 7, 2) := by decide +kernel
theorem dX4_join_96 : decode cX4_join 96 = .ok (.iadd, 1) := by decide +kernel
theorem dX4_join_97 : decode cX4_join 97 = .ok (.goto 5, 3) := by decide +kernel
theorem dX4_join_100 : decode cX4_join 100 = .ok (.iload 6, 2) := by decide +kernel
theorem dX4_join_102 : decode cX4_join 102 = .ok (.invokevirtual 128, 3) := by decide +kernel
theorem dX4_join_105 : decode cX4_join 105 = .ok (.ireturn, 1) := by decide +kernel
theorem dX4_mix_0 : decode cX4_mix 0 = .ok (.iload 6, 2) := by decide +kernel
theorem dX4_mix_2 : decode cX4_mix 2 = .ok (.invokestatic 46, 3) := by decide +kernel
theorem dX4_mix_5 : decode cX4_mix 5 = .ok (.ifCond .eq 6, 3) := by decide +kernel
theorem dX4_mix_8 : decode cX4_mix 8 = .ok (.bipush (-2), 2) := by decide +kernel
theorem dX4_mix_10 : decode cX4_mix 10 = .ok (.ireturn, 1) := by decide +kernel
theorem dX4_mix_11 : decode cX4_mix 11 = .ok (.aload_n 0, 1) := by decide +kernel
theorem dX4_mix_12 : decode cX4_mix 12 = .ok (.iload_n 1, 1) := by decide +kernel
theorem dX4_mix_13 : decode cX4_mix 13 = .ok (.iload_n 1, 1) := by decide +kernel
theorem dX4_mix_14 : decode cX4_mix 14 = .ok (.invokevirtual 95, 3) := by decide +kernel
theorem dX4_mix_17 : decode cX4_mix 17 = .ok (.istore 7, 2) := by decide +kernel
theorem dX4_mix_19 : decode cX4_mix 19 = .ok (.iload 7, 2) := by decide +kernel
theorem dX4_mix_21 : decode cX4_mix 21 = .ok (.ifCond .eq 6, 3) := by decide +kernel
theorem dX4_mix_24 : decode cX4_mix 24 = .ok (.iload 7, 2) := by decide +kernel
theorem dX4_mix_26 : decode cX4_mix 26 = .ok (.ireturn, 1) := by decide +kernel
theorem dX4_mix_27 : decode cX4_mix 27 = .ok (.iload_n 2, 1) := by decide +kernel
theorem dX4_mix_28 : decode cX4_mix 28 = .ok (.invokestatic 109, 3) := by decide +kernel
theorem dX4_mix_31 : decode cX4_mix 31 = .ok (.istore 8, 2) := by decide +kernel
theorem dX4_mix_33 : decode cX4_mix 33 = .ok (.iload_n 3, 1) := by decide +kernel
theorem dX4_mix_34 : decode cX4_mix 34 = .ok (.invokestatic 109, 3) := by decide +kernel
theorem dX4_mix_37 : decode cX4_mix 37 = .ok (.istore 9, 2) := by decide +kernel
theorem dX4_mix_39 : decode cX4_mix 39 = .ok (.iload 4, 2) := by decide +kernel
theorem dX4_mix_41 : decode cX4_mix 41 = .ok (.invokestatic 109, 3) := by decide +kernel
theorem dX4_mix_44 : decode cX4_mix 44 = .ok (.istore 10, 2) := by decide +kernel
theorem dX4_mix_46 : decode cX4_mix 46 = .ok (.iload 5, 2) := by decide +kernel
theorem dX4_mix_48 : decode cX4_mix 48 = .ok (.invokestatic 109, 3) := by decide +kernel
theorem dX4_mix_51 : decode cX4_mix 51 = .ok (.istore 11, 2) := by decide +kernel
theorem dX4_mix_53 : decode cX4_mix 53 = .ok (.aload_n 0, 1) := by decide +kernel
theorem dX4_mix_54 : decode cX4_mix 54 = .ok (.iload_n 1, 1) := by decide +kernel
theorem dX4_mix_55 : decode cX4_mix 55 = .ok (.aload_n 0, 1) := by decide +kernel
theorem dX4_mix_56 : decode cX4_mix 56 = .ok (.getfield 19, 3) := by decide +kernel
theorem dX4_mix_59 : decode cX4_mix 59 = .ok (.invokevirtual 105, 3) := by decide +kernel
theorem dX4_mix_62 : decode cX4_mix 62 = .ok (.istore 12, 2) := by decide +kernel
theorem dX4_mix_64 : decode cX4_mix 64 = .ok (.aload_n 0, 1) := by decide +kernel
theorem dX4_mix_65 : decode cX4_mix 65 = .ok (.iload 12, 2) := by decide +kernel
theorem dX4_mix_67 : decode cX4_mix 67 = .ok (.iload 8, 2) := by decide +kernel
theorem dX4_mix_69 : decode cX4_mix 69 = .ok (.iload 9, 2) := by decide +kernel
theorem dX4_mix_71 : decode cX4_mix 71 = .ok (.iload 10, 2) := by decide +kernel
theorem dX4_mix_73 : decode cX4_mix 73 = .ok (.iload 11, 2) := by decide +kernel
theorem dX4_mix_75 : decode cX4_mix 75 = .ok (.invokevirtual 131, 3) := by decide +kernel
theorem dX4_mix_78 : decode cX4_mix 78 = .ok (.aload_n 0, 1) := by decide +kernel
theorem dX4_mix_79 : decode cX4_mix 79 = .ok (.iload 6, 2) := by decide +kernel
theorem dX4_mix_81 : decode cX4_mix 81 = .ok (.iload 12, 2) := by decide +kernel
theorem dX4_mix_83 : decode cX4_mix 83 = .ok (.invokevirtual 128, 3) := by decide +kernel
theorem dX4_mix_86 : decode cX4_mix 86 = .ok (.pop, 1) := by decide +kernel
theorem dX4_mix_87 : decode cX4_mix 87 = .ok (.iload 8, 2) := by decide +kernel
theorem dX4_mix_89 : decode cX4_mix 89 = .ok (.iload 11, 2) := by decide +kernel
theorem dX4_mix_91 : decode cX4_mix 91 = .ok (.imul, 1) := by decide +kernel
theorem dX4_mix_92 : decode cX4_mix 92 = .ok (.iload 9, 2) := by decide +kernel
theorem dX4_mix_94 : decode cX4_mix 94 = .ok (.iload 10, 2) := by decide +kernel
theorem dX4_mix_96 : decode cX4_mix 96 = .ok (.imul, 1) := by decide +kernel
theorem dX4_mix_97 : decode cX4_mix 97 = .ok (.isub, 1) := by decide +kernel
theorem dX4_mix_98 : decode cX4_mix 98 = .ok (.invokestatic 109, 3) := by decide +kernel
theorem dX4_mix_101 : decode cX4_mix 101 = .ok (.ireturn, 1) := by decide +kernel
theorem dX4_change_0 : decode cX4_change 0 = .ok (.iload_n 3, 1) := by decide +kernel
theorem dX4_change_1 : decode cX4_change 1 = .ok (.invokestatic 46, 3) := by decide +kernel
theorem dX4_change_4 : decode cX4_change 4 = .ok (.ifCond .ne 12, 3) := by decide +kernel
theorem dX4_change_7 : decode cX4_change 7 = .ok (.iload_n 2, 1) := by decide +kernel
theorem dX4_change_8 : decode cX4_change 8 = .ok (.ifCond .lt 8, 3) := by decide +kernel
theorem dX4_change_11 : decode cX4_change 11 = .ok (.iload_n 2, 1) := by decide +kernel
theorem dX4_change_12 : decode cX4_change 12 = .ok (.iconst 1, 1) := by decide +kernel
theorem dX4_change_13 : decode cX4_change 13 = .ok (.if_icmp .le 6, 3) := by decide +kernel
theorem dX4_change_16 : decode cX4_change 16 = .ok (.bipush (-2), 2) := by decide +kernel
theorem dX4_change_18 : decode cX4_change 18 = .ok (.ireturn, 1) := by decide +kernel
theorem dX4_change_19 : decode cX4_change 19 = .ok (.aload_n 0, 1) := by decide +kernel
theorem dX4_change_20 : decode cX4_change 20 = .ok (.iload_n 1, 1) := by decide +kernel
theorem dX4_change_21 : decode cX4_change 21 = .ok (.iload_n 1, 1) := by decide +kernel
theorem dX4_change_22 : decode cX4_change 22 = .ok (.invokevirtual 95, 3) := by decide +kernel
theorem dX4_change_25 : decode cX4_change 25 = .ok (.istore 4, 2) := by decide +kernel
theorem dX4_change_27 : decode cX4_change 27 = .ok (.iload 4, 2) := by decide +kernel
theorem dX4_change_29 : decode cX4_change 29 = .ok (.ifCond .eq 6, 3) := by decide +kernel
theorem dX4_change_32 : decode cX4_change 32 = .ok (.iload 4, 2) := by decide +kernel
theorem dX4_change_34 : decode cX4_change 34 = .ok (.ireturn, 1) := by decide +kernel
theorem dX4_change_35 : decode cX4_change 35 = .ok (.aload_n 0, 1) := by decide +kernel
theorem dX4_change_36 : decode cX4_change 36 = .ok (.iload_n 1, 1) := by decide +kernel
theorem dX4_change_37 : decode cX4_change 37 = .ok (.aload_n 0, 1) := by decide +kernel
theorem dX4_change_38 : decode cX4_change 38 = .ok (.getfield 19, 3) := by decide +kernel
theorem dX4_change_41 : decode cX4_change 41 = .ok (.invokevirtual 105, 3) := by decide +kernel
theorem dX4_change_44 : decode cX4_change 44 = .ok (.istore 5, 2) := by decide +kernel
theorem dX4_change_46 : decode cX4_change 46 = .ok (.iload 5, 2) := by decide +kernel
theorem dX4_change_48 : decode cX4_change 48 = .ok (.ifCond .ne 6, 3) := by decide +kernel
theorem dX4_change_51 : decode cX4_change 51 = .ok (.bipush (-3), 2) := by decide +kernel
theorem dX4_change_53 : decode cX4_change 53 = .ok (.ireturn, 1) := by decide +kernel
theorem dX4_change_54 : decode cX4_change 54 = .ok (.iload_n 2, 1) := by decide +kernel
theorem dX4_change_55 : decode cX4_change 55 = .ok (.iconst 1, 1) := by decide +kernel
theorem dX4_change_56 : decode cX4_change 56 = .ok (.if_icmp .ne 7, 3) := by decide +kernel
theorem dX4_change_59 : decode cX4_change 59 = .ok (.iconst 1, 1) := by decide +kernel
theorem dX4_change_60 : decode cX4_change 60 = .ok (.goto 4, 3) := by decide +kernel
theorem dX4_change_63 : decode cX4_change 63 = .ok (.iconst 0, 1) := by decide +kernel
theorem dX4_change_64 : decode cX4_change 64 = .ok (.istore 6, 2) := by decide +kernel
theorem dX4_change_66 : decode cX4_change 66 = .ok (.aload_n 0, 1) := by decide +kernel
theorem dX4_change_67 : decode cX4_change 67 = .ok (.getfield 19, 3) := by decide +kernel
theorem dX4_change_70 : decode cX4_change 70 = .ok (.iload 5, 2) := by decide +kernel
theorem dX4_change_72 : decode cX4_change 72 = .ok (.iconst 1, 1) := by decide +kernel
theorem dX4_change_73 : decode cX4_change 73 = .ok (.iload 6, 2) := by decide +kernel
theorem dX4_change_75 : decode cX4_change 75 = .ok (.isub, 1) := by decide +kernel
theorem dX4_change_76 : decode cX4_change 76 = .ok (.iload 6, 2) := by decide +kernel
theorem dX4_change_78 : decode cX4_change 78 = .ok (.aload_n 0, 1) := by decide +kernel
theorem dX4_change_79 : decode cX4_change 79 = .ok (.getfield 32, 3) := by decide +kernel
theorem dX4_change_82 : decode cX4_change 82 = .ok (.invokestatic 135, 3) := by decide +kernel
theorem dX4_change_85 : decode cX4_change 85 = .ok (.aload_n 0, 1) := by decide +kernel
theorem dX4_change_86 : decode cX4_change 86 = .ok (.iload_n 3, 1) := by decide +kernel
theorem dX4_change_87 : decode cX4_change 87 = .ok (.iload 5, 2) := by decide +kernel
theorem dX4_change_89 : decode cX4_change 89 = .ok (.iconst 1, 1) := by decide +kernel
theorem dX4_change_90 : decode cX4_change 90 = .ok (.isub, 1) := by decide +kernel
theorem dX4_change_91 : decode cX4_change 91 = .ok (.invokevirtual 128, 3) := by decide +kernel
theorem dX4_change_94 : decode cX4_change 94 = .ok (.ireturn, 1) := by decide +kernel
theorem dX4_overlap_0 : decode cX4_overlap 0 = .ok (.iload 4, 2) := by decide +kernel
theorem dX4_overlap_2 : decode cX4_overlap 2 = .ok (.invokestatic 46, 3) := by decide +kernel
theorem dX4_overlap_5 : decode cX4_overlap 5 = .ok (.ifCond .ne 13, 3) := by decide +kernel
theorem dX4_overlap_8 : decode cX4_overlap 8 = .ok (.iload_n 3, 1) := by decide +kernel
theorem dX4_overlap_9 : decode cX4_overlap 9 = .ok (.ifCond .lt 9, 3) := by decide +kernel
theorem dX4_overlap_12 : decode cX4_overlap 12 = .ok (.iload_n 3, 1) := by decide +kernel
theorem dX4_overlap_13 : decode cX4_overlap 13 = .ok (.bipush 8, 2) := by decide +kernel
theorem dX4_overlap_15 : decode cX4_overlap 15 = .ok (.if_icmp .le 6, 3) := by decide +kernel
theorem dX4_overlap_18 : decode cX4_overlap 18 = .ok (.bipush (-2), 2) := by decide +kernel
theorem dX4_overlap_20 : decode cX4_overlap 20 = .ok (.ireturn, 1) := by decide +kernel
theorem dX4_overlap_21 : decode cX4_overlap 21 = .ok (.aload_n 0, 1) := by decide +kernel
theorem dX4_overlap_22 : decode cX4_overlap 22 = .ok (.iload_n 1, 1) := by decide +kernel
theorem dX4_overlap_23 : decode cX4_overlap 23 = .ok (.iload_n 2, 1) := by decide +kernel
theorem dX4_overlap_24 : decode cX4_overlap 24 = .ok (.invokevirtual 95, 3) := by decide +kernel
theorem dX4_overlap_27 : decode cX4_overlap 27 = .ok (.istore 5, 2) := by decide +kernel
theorem dX4_overlap_29 : decode cX4_overlap 29 = .ok (.iload 5, 2) := by decide +kernel
theorem dX4_overlap_31 : decode cX4_overlap 31 = .ok (.ifCond .eq 6, 3) := by decide +kernel
theorem dX4_overlap_34 : decode cX4_overlap 34 = .ok (.iload 5, 2) := by decide +kernel
theorem dX4_overlap_36 : decode cX4_overlap 36 = .ok (.ireturn, 1) := by decide +kernel
theorem dX4_overlap_37 : decode cX4_overlap 37 = .ok (.aload_n 0, 1) := by decide +kernel
theorem dX4_overlap_38 : decode cX4_overlap 38 = .ok (.iload_n 1, 1) := by decide +kernel
theorem dX4_overlap_39 : decode cX4_overlap 39 = .ok (.aload_n 0, 1) := by decide +kernel
theorem dX4_overlap_40 : decode cX4_overlap 40 = .ok (.getfield 19, 3) := by decide +kernel
theorem dX4_overlap_43 : decode cX4_overlap 43 = .ok (.invokevirtual 105, 3) := by decide +kernel
theorem dX4_overlap_46 : decode cX4_overlap 46 = .ok (.istore 6, 2) := by decide +kernel
theorem dX4_overlap_48 : decode cX4_overlap 48 = .ok (.aload_n 0, 1) := by decide +kernel
theorem dX4_overlap_49 : decode cX4_overlap 49 = .ok (.iload_n 2, 1) := by decide +kernel
theorem dX4_overlap_50 : decode cX4_overlap 50 = .ok (.aload_n 0, 1) := by decide +kernel
theorem dX4_overlap_51 : decode cX4_overlap 51 = .ok (.getfield 23, 3) := by decide +kernel
theorem dX4_overlap_54 : decode cX4_overlap 54 = .ok (.invokevirtual 105, 3) := by decide +kernel
theorem dX4_overlap_57 : decode cX4_overlap 57 = .ok (.istore 7, 2) := by decide +kernel
theorem dX4_overlap_59 : decode cX4_overlap 59 = .ok (.iload_n 3, 1) := by decide +kernel
theorem dX4_overlap_60 : decode cX4_overlap 60 = .ok (.iload 6, 2) := by decide +kernel
theorem dX4_overlap_62 : decode cX4_overlap 62 = .ok (.if_icmp .gt 23, 3) := by decide +kernel
theorem dX4_overlap_65 : decode cX4_overlap 65 = .ok (.iload_n 3, 1) := by decide +kernel
theorem dX4_overlap_66 : decode cX4_overlap 66 = .ok (.iload 7, 2) := by decide +kernel
theorem dX4_overlap_68 : decode cX4_overlap 68 = .ok (.if_icmp .gt 17, 3) := by decide +kernel
theorem dX4_overlap_71 : decode cX4_overlap 71 = .ok (.iload 6, 2) := by decide +kernel
theorem dX4_overlap_73 : decode cX4_overlap 73 = .ok (.iload 7, 2) := by decide +kernel
theorem dX4_overlap_75 : decode cX4_overlap 75 = .ok (.iadd, 1) := by decide +kernel
theorem dX4_overlap_76 : decode cX4_overlap 76 = .ok (.iconst 2, 1) := by decide +kernel
theorem dX4_overlap_77 : decode cX4_overlap 77 = .ok (.iload_n 3, 1) := by decide +kernel
theorem dX4_overlap_78 : decode cX4_overlap 78 = .ok (.imul, 1) := by decide +kernel
theorem dX4_overlap_79 : decode cX4_overlap 79 = .ok (.isub, 1) := by decide +kernel
theorem dX4_overlap_80 : decode cX4_overlap 80 = .ok (.bipush 8, 2) := by decide +kernel
theorem dX4_overlap_82 : decode cX4_overlap 82 = .ok (.if_icmp .le 6, 3) := by decide +kernel
theorem dX4_overlap_85 : decode cX4_overlap 85 = .ok (.bipush (-3), 2) := by decide +kernel
theorem dX4_overlap_87 : decode cX4_overlap 87 = .ok (.ireturn, 1) := by decide +kernel
theorem dX4_overlap_88 : decode cX4_overlap 88 = .ok (.aload_n 0, 1) := by decide +kernel
theorem dX4_overlap_89 : decode cX4_overlap 89 = .ok (.iload 6, 2) := by decide +kernel
theorem dX4_overlap_91 : decode cX4_overlap 91 = .ok (.iload 7, 2) := by decide +kernel
theorem dX4_overlap_93 : decode cX4_overlap 93 = .ok (.iload_n 3, 1) := by decide +kernel
theorem dX4_overlap_94 : decode cX4_overlap 94 = .ok (.invokevirtual 139, 3) := by decide +kernel
theorem dX4_overlap_97 : decode cX4_overlap 97 = .ok (.aload_n 0, 1) := by decide +kernel
theorem dX4_overlap_98 : decode cX4_overlap 98 = .ok (.iload 4, 2) := by decide +kernel
theorem dX4_overlap_100 : decode cX4_overlap 100 = .ok (.iload 6, 2) := by decide +kernel
theorem dX4_overlap_102 : decode cX4_overlap 102 = .ok (.iload 7, 2) := by decide +kernel
theorem dX4_overlap_104 : decode cX4_overlap 104 = .ok (.iadd, 1) := by decide +kernel
theorem dX4_overlap_105 : decode cX4_overlap 105 = .ok (.iconst 2, 1) := by decide +kernel
theorem dX4_overlap_106 : decode cX4_overlap 106 = .ok (.iload_n 3, 1) := by decide +kernel
theorem dX4_overlap_107 : decode cX4_overlap 107 = .ok (.imul, 1) := by decide +kernel
theorem dX4_overlap_108 : decode cX4_overlap 108 = .ok (.isub, 1) := by decide +kernel
theorem dX4_overlap_109 : decode cX4_overlap 109 = .ok (.invokevirtual 128, 3) := by decide +kernel
theorem dX4_overlap_112 : decode cX4_overlap 112 = .ok (.ireturn, 1) := by decide +kernel
theorem dX4_alike_0 : decode cX4_alike 0 = .ok (.aload_n 0, 1) := by decide +kernel
theorem dX4_alike_1 : decode cX4_alike 1 = .ok (.iload_n 1, 1) := by decide +kernel
theorem dX4_alike_2 : decode cX4_alike 2 = .ok (.iload_n 2, 1) := by decide +kernel
theorem dX4_alike_3 : decode cX4_alike 3 = .ok (.invokevirtual 95, 3) := by decide +kernel
theorem dX4_alike_6 : decode cX4_alike 6 = .ok (.istore_n 3, 1) := by decide +kernel
theorem dX4_alike_7 : decode cX4_alike 7 = .ok (.iload_n 3, 1) := by decide +kernel
theorem dX4_alike_8 : decode cX4_alike 8 = .ok (.ifCond .eq 5, 3) := by decide +kernel
theorem dX4_alike_11 : decode cX4_alike 11 = .ok (.iload_n 3, 1) := by decide +kernel
theorem dX4_alike_12 : decode cX4_alike 12 = .ok (.ireturn, 1) := by decide +kernel
theorem dX4_alike_13 : decode cX4_alike 13 = .ok (.aload_n 0, 1) := by decide +kernel
theorem dX4_alike_14 : decode cX4_alike 14 = .ok (.iload_n 1, 1) := by decide +kernel
theorem dX4_alike_15 : decode cX4_alike 15 = .ok (.aload_n 0, 1) := by decide +kernel
theorem dX4_alike_16 : decode cX4_alike 16 = .ok (.getfield 19, 3) := by decide +kernel
theorem dX4_alike_19 : decode cX4_alike 19 = .ok (.invokevirtual 105, 3) := by decide +kernel
theorem dX4_alike_22 : decode cX4_alike 22 = .ok (.istore 4, 2) := by decide +kernel
theorem dX4_alike_24 : decode cX4_alike 24 = .ok (.aload_n 0, 1) := by decide +kernel
theorem dX4_alike_25 : decode cX4_alike 25 = .ok (.iload_n 2, 1) := by decide +kernel
theorem dX4_alike_26 : decode cX4_alike 26 = .ok (.aload_n 0, 1) := by decide +kernel
theorem dX4_alike_27 : decode cX4_alike 27 = .ok (.getfield 23, 3) := by decide +kernel
theorem dX4_alike_30 : decode cX4_alike 30 = .ok (.invokevirtual 105, 3) := by decide +kernel
theorem dX4_alike_33 : decode cX4_alike 33 = .ok (.istore 5, 2) := by decide +kernel
theorem dX4_alike_35 : decode cX4_alike 35 = .ok (.iload 4, 2) := by decide +kernel
theorem dX4_alike_37 : decode cX4_alike 37 = .ok (.iload 5, 2) := by decide +kernel
theorem dX4_alike_39 : decode cX4_alike 39 = .ok (.if_icmp .ne 19, 3) := by decide +kernel
theorem dX4_alike_42 : decode cX4_alike 42 = .ok (.aload_n 0, 1) := by decide +kernel
theorem dX4_alike_43 : decode cX4_alike 43 = .ok (.getfield 19, 3) := by decide +kernel
theorem dX4_alike_46 : decode cX4_alike 46 = .ok (.aload_n 0, 1) := by decide +kernel
theorem dX4_alike_47 : decode cX4_alike 47 = .ok (.getfield 23, 3) := by decide +kernel
theorem dX4_alike_50 : decode cX4_alike 50 = .ok (.iload 5, 2) := by decide +kernel
theorem dX4_alike_52 : decode cX4_alike 52 = .ok (.invokestatic 142, 3) := by decide +kernel
theorem dX4_alike_55 : decode cX4_alike 55 = .ok (.goto 4, 3) := by decide +kernel
theorem dX4_alike_58 : decode cX4_alike 58 = .ok (.iconst 0, 1) := by decide +kernel
theorem dX4_alike_59 : decode cX4_alike 59 = .ok (.ireturn, 1) := by decide +kernel
theorem dX4_roots_0 : decode cX4_roots 0 = .ok (.aload_n 0, 1) := by decide +kernel
theorem dX4_roots_1 : decode cX4_roots 1 = .ok (.iload_n 1, 1) := by decide +kernel
theorem dX4_roots_2 : decode cX4_roots 2 = .ok (.iload_n 1, 1) := by decide +kernel
theorem dX4_roots_3 : decode cX4_roots 3 = .ok (.invokevirtual 146, 3) := by decide +kernel
theorem dX4_roots_6 : decode cX4_roots 6 = .ok (.istore_n 2, 1) := by decide +kernel
theorem dX4_roots_7 : decode cX4_roots 7 = .ok (.iload_n 2, 1) := by decide +kernel
theorem dX4_roots_8 : decode cX4_roots 8 = .ok (.ifCond .eq 7, 3) := by decide +kernel
theorem dX4_roots_11 : decode cX4_roots 11 = .ok (.iload_n 2, 1) := by decide +kernel
theorem dX4_roots_12 : decode cX4_roots 12 = .ok (.goto 8, 3) := by decide +kernel
theorem dX4_roots_15 : decode cX4_roots 15 = .ok (.aload_n 0, 1) := by decide +kernel
theorem dX4_roots_16 : decode cX4_roots 16 = .ok (.iload_n 1, 1) := by decide +kernel
theorem dX4_roots_17 : decode cX4_roots 17 = .ok (.invokevirtual 149, 3) := by decide +kernel
theorem dX4_roots_20 : decode cX4_roots 20 = .ok (.ireturn, 1) := by decide +kernel
theorem dX4_root_0 : decode cX4_root 0 = .ok (.iload_n 2, 1) := by decide +kernel
theorem dX4_root_1 : decode cX4_root 1 = .ok (.ifCond .ge 6, 3) := by decide +kernel
theorem dX4_root_4 : decode cX4_root 4 = .ok (.bipush (-2), 2) := by decide +kernel
theorem dX4_root_6 : decode cX4_root 6 = .ok (.ireturn, 1) := by decide +kernel
theorem dX4_root_7 : decode cX4_root 7 = .ok (.aload_n 0, 1) := by decide +kernel
theorem dX4_root_8 : decode cX4_root 8 = .ok (.iload_n 1, 1) := by decide +kernel
theorem dX4_root_9 : decode cX4_root 9 = .ok (.iload_n 1, 1) := by decide +kernel
theorem dX4_root_10 : decode cX4_root 10 = .ok (.invokevirtual 146, 3) := by decide +kernel
theorem dX4_root_13 : decode cX4_root 13 = .ok (.istore_n 3, 1) := by decide +kernel
theorem dX4_root_14 : decode cX4_root 14 = .ok (.iload_n 3, 1) := by decide +kernel
theorem dX4_root_15 : decode cX4_root 15 = .ok (.ifCond .eq 5, 3) := by decide +kernel
theorem dX4_root_18 : decode cX4_root 18 = .ok (.iload_n 3, 1) := by decide +kernel
theorem dX4_root_19 : decode cX4_root 19 = .ok (.ireturn, 1) := by decide +kernel
theorem dX4_root_20 : decode cX4_root 20 = .ok (.iload_n 2, 1) := by decide +kernel
theorem dX4_root_21 : decode cX4_root 21 = .ok (.aload_n 0, 1) := by decide +kernel
theorem dX4_root_22 : decode cX4_root 22 = .ok (.iload_n 1, 1) := by decide +kernel
theorem dX4_root_23 : decode cX4_root 23 = .ok (.invokevirtual 149, 3) := by decide +kernel
theorem dX4_root_26 : decode cX4_root 26 = .ok (.if_icmp .ge 12, 3) := by decide +kernel
theorem dX4_root_29 : decode cX4_root 29 = .ok (.aload_n 0, 1) := by decide +kernel
theorem dX4_root_30 : decode cX4_root 30 = .ok (.getfield 26, 3) := by decide +kernel
theorem dX4_root_33 : decode cX4_root 33 = .ok (.iload_n 2, 1) := by decide +kernel
theorem dX4_root_34 : decode cX4_root 34 = .ok (.iaload, 1) := by decide +kernel
theorem dX4_root_35 : decode cX4_root 35 = .ok (.goto 4, 3) := by decide +kernel
theorem dX4_root_38 : decode cX4_root 38 = .ok (.iconst (-1), 1) := by decide +kernel
theorem dX4_root_39 : decode cX4_root 39 = .ok (.ireturn, 1) := by decide +kernel
theorem dX4_common_0 : decode cX4_common 0 = .ok (.iload_n 3, 1) := by decide +kernel
theorem dX4_common_1 : decode cX4_common 1 = .ok (.invokestatic 46, 3) := by decide +kernel
theorem dX4_common_4 : decode cX4_common 4 = .ok (.ifCond .eq 6, 3) := by decide +kernel
theorem dX4_common_7 : decode cX4_common 7 = .ok (.bipush (-2), 2) := by decide +kernel
theorem dX4_common_9 : decode cX4_common 9 = .ok (.ireturn, 1) := by decide +kernel
theorem dX4_common_10 : decode cX4_common 10 = .ok (.aload_n 0, 1) := by decide +kernel
theorem dX4_common_11 : decode cX4_common 11 = .ok (.iload_n 1, 1) := by decide +kernel
theorem dX4_common_12 : decode cX4_common 12 = .ok (.iload_n 2, 1) := by decide +kernel
theorem dX4_common_13 : decode cX4_common 13 = .ok (.invokevirtual 146, 3) := by decide +kernel
theorem dX4_common_16 : decode cX4_common 16 = .ok (.istore 4, 2) := by decide +kernel
theorem dX4_common_18 : decode cX4_common 18 = .ok (.iload 4, 2) := by decide +kernel
theorem dX4_common_20 : decode cX4_common 20 = .ok (.ifCond .eq 6, 3) := by decide +kernel
theorem dX4_common_23 : decode cX4_common 23 = .ok (.iload 4, 2) := by decide +kernel
theorem dX4_common_25 : decode cX4_common 25 = .ok (.ireturn, 1) := by decide +kernel
theorem dX4_common_26 : decode cX4_common 26 = .ok (.aload_n 0, 1) := by decide +kernel
theorem dX4_common_27 : decode cX4_common 27 = .ok (.iload_n 1, 1) := by decide +kernel
theorem dX4_common_28 : decode cX4_common 28 = .ok (.aload_n 0, 1) := by decide +kernel
theorem dX4_common_29 : decode cX4_common 29 = .ok (.getfield 19, 3) := by decide +kernel
theorem dX4_common_32 : decode cX4_common 32 = .ok (.invokevirtual 105, 3) := by decide +kernel
theorem dX4_common_35 : decode cX4_common 35 = .ok (.istore 5, 2) := by decide +kernel
theorem dX4_common_37 : decode cX4_common 37 = .ok (.aload_n 0, 1) := by decide +kernel
theorem dX4_common_38 : decode cX4_common 38 = .ok (.iload_n 2, 1) := by decide +kernel
theorem dX4_common_39 : decode cX4_common 39 = .ok (.aload_n 0, 1) := by decide +kernel
theorem dX4_common_40 : decode cX4_common 40 = .ok (.getfield 23, 3) := by decide +kernel
theorem dX4_common_43 : decode cX4_common 43 = .ok (.invokevirtual 105, 3) := by decide +kernel
theorem dX4_common_46 : decode cX4_common 46 = .ok (.istore 6, 2) := by decide +kernel
theorem dX4_common_48 : decode cX4_common 48 = .ok (.aload_n 0, 1) := by decide +kernel
theorem dX4_common_49 : decode cX4_common 49 = .ok (.iload_n 3, 1) := by decide +kernel
theorem dX4_common_50 : decode cX4_common 50 = .ok (.aload_n 0, 1) := by decide +kernel
theorem dX4_common_51 : decode cX4_common 51 = .ok (.iload 5, 2) := by decide +kernel
theorem dX4_common_53 : decode cX4_common 53 = .ok (.iload 6, 2) := by decide +kernel
theorem dX4_common_55 : decode cX4_common 55 = .ok (.invokevirtual 152, 3) := by decide +kernel
theorem dX4_common_58 : decode cX4_common 58 = .ok (.invokevirtual 128, 3) := by decide +kernel
theorem dX4_common_61 : decode cX4_common 61 = .ok (.ireturn, 1) := by decide +kernel
theorem dX4_result_0 : decode cX4_result 0 = .ok (.aload_n 0, 1) := by decide +kernel
theorem dX4_result_1 : decode cX4_result 1 = .ok (.iload_n 1, 1) := by decide +kernel
theorem dX4_result_2 : decode cX4_result 2 = .ok (.iload_n 2, 1) := by decide +kernel
theorem dX4_result_3 : decode cX4_result 3 = .ok (.invokevirtual 95, 3) := by decide +kernel
theorem dX4_result_6 : decode cX4_result 6 = .ok (.istore_n 3, 1) := by decide +kernel
theorem dX4_result_7 : decode cX4_result 7 = .ok (.iload_n 3, 1) := by decide +kernel
theorem dX4_result_8 : decode cX4_result 8 = .ok (.ifCond .eq 5, 3) := by decide +kernel
theorem dX4_result_11 : decode cX4_result 11 = .ok (.iload_n 3, 1) := by decide +kernel
theorem dX4_result_12 : decode cX4_result 12 = .ok (.ireturn, 1) := by decide +kernel
theorem dX4_result_13 : decode cX4_result 13 = .ok (.aload_n 0, 1) := by decide +kernel
theorem dX4_result_14 : decode cX4_result 14 = .ok (.iload_n 1, 1) := by decide +kernel
theorem dX4_result_15 : decode cX4_result 15 = .ok (.aload_n 0, 1) := by decide +kernel
theorem dX4_result_16 : decode cX4_result 16 = .ok (.getfield 19, 3) := by decide +kernel
theorem dX4_result_19 : decode cX4_result 19 = .ok (.invokevirtual 105, 3) := by decide +kernel
theorem dX4_result_22 : decode cX4_result 22 = .ok (.istore 4, 2) := by decide +kernel
theorem dX4_result_24 : decode cX4_result 24 = .ok (.aload_n 0, 1) := by decide +kernel
theorem dX4_result_25 : decode cX4_result 25 = .ok (.iload_n 2, 1) := by decide +kernel
theorem dX4_result_26 : decode cX4_result 26 = .ok (.aload_n 0, 1) := by decide +kernel
theorem dX4_result_27 : decode cX4_result 27 = .ok (.getfield 23, 3) := by decide +kernel
theorem dX4_result_30 : decode cX4_result 30 = .ok (.invokevirtual 105, 3) := by decide +kernel
theorem dX4_result_33 : decode cX4_result 33 = .ok (.istore 5, 2) := by decide +kernel
theorem dX4_result_35 : decode cX4_result 35 = .ok (.iload 4, 2) := by decide +kernel
theorem dX4_result_37 : decode cX4_result 37 = .ok (.ifCond .eq 8, 3) := by decide +kernel
theorem dX4_result_40 : decode cX4_result 40 = .ok (.iload 5, 2) := by decide +kernel
theorem dX4_result_42 : decode cX4_result 42 = .ok (.ifCond .ne 6, 3) := by decide +kernel
theorem dX4_result_45 : decode cX4_result 45 = .ok (.bipush (-3), 2) := by decide +kernel
theorem dX4_result_47 : decode cX4_result 47 = .ok (.ireturn, 1) := by decide +kernel
theorem dX4_result_48 : decode cX4_result 48 = .ok (.aload_n 0, 1) := by decide +kernel
theorem dX4_result_49 : decode cX4_result 49 = .ok (.getfield 38, 3) := by decide +kernel
theorem dX4_result_52 : decode cX4_result 52 = .ok (.invokevirtual 155, 3) := by decide +kernel
theorem dX4_result_55 : decode cX4_result 55 = .ok (.aload_n 0, 1) := by decide +kernel
theorem dX4_result_56 : decode cX4_result 56 = .ok (.getfield 38, 3) := by decide +kernel
theorem dX4_result_59 : decode cX4_result 59 = .ok (.aload_n 0, 1) := by decide +kernel
theorem dX4_result_60 : decode cX4_result 60 = .ok (.getfield 19, 3) := by decide +kernel
theorem dX4_result_63 : decode cX4_result 63 = .ok (.iload 4, 2) := by decide +kernel
theorem dX4_result_65 : decode cX4_result 65 = .ok (.iconst 0, 1) := by decide +kernel
theorem dX4_result_66 : decode cX4_result 66 = .ok (.iload 5, 2) := by decide +kernel
theorem dX4_result_68 : decode cX4_result 68 = .ok (.invokevirtual 158, 3) := by decide +kernel
theorem dX4_result_71 : decode cX4_result 71 = .ok (.aload_n 0, 1) := by decide +kernel
theorem dX4_result_72 : decode cX4_result 72 = .ok (.getfield 38, 3) := by decide +kernel
theorem dX4_result_75 : decode cX4_result 75 = .ok (.aload_n 0, 1) := by decide +kernel
theorem dX4_result_76 : decode cX4_result 76 = .ok (.getfield 23, 3) := by decide +kernel
theorem dX4_result_79 : decode cX4_result 79 = .ok (.iload 5, 2) := by decide +kernel
theorem dX4_result_81 : decode cX4_result 81 = .ok (.iload 5, 2) := by decide +kernel
theorem dX4_result_83 : decode cX4_result 83 = .ok (.iload 4, 2) := by decide +kernel
theorem dX4_result_85 : decode cX4_result 85 = .ok (.invokevirtual 158, 3) := by decide +kernel
theorem dX4_result_88 : decode cX4_result 88 = .ok (.aload_n 0, 1) := by decide +kernel
theorem dX4_result_89 : decode cX4_result 89 = .ok (.getfield 38, 3) := by decide +kernel
theorem dX4_result_92 : decode cX4_result 92 = .ok (.iload 4, 2) := by decide +kernel
theorem dX4_result_94 : decode cX4_result 94 = .ok (.iload 5, 2) := by decide +kernel
theorem dX4_result_96 : decode cX4_result 96 = .ok (.iadd, 1) := by decide +kernel
theorem dX4_result_97 : decode cX4_result 97 = .ok (.invokevirtual 162, 3) := by decide +kernel
theorem dX4_result_100 : decode cX4_result 100 = .ok (.ireturn, 1) := by decide +kernel
theorem dX4_powers_0 : decode cX4_powers 0 = .ok (.iload 4, 2) := by decide +kernel
theorem dX4_powers_2 : decode cX4_powers 2 = .ok (.invokestatic 46, 3) := by decide +kernel
theorem dX4_powers_5 : decode cX4_powers 5 = .ok (.ifCond .ne 14, 3) := by decide +kernel
theorem dX4_powers_8 : decode cX4_powers 8 = .ok (.iload_n 3, 1) := by decide +kernel
theorem dX4_powers_9 : decode cX4_powers 9 = .ok (.iconst 1, 1) := by decide +kernel
theorem dX4_powers_10 : decode cX4_powers 10 = .ok (.if_icmp .lt 9, 3) := by decide +kernel
theorem dX4_powers_13 : decode cX4_powers 13 = .ok (.iload_n 3, 1) := by decide +kernel
theorem dX4_powers_14 : decode cX4_powers 14 = .ok (.bipush 9, 2) := by decide +kernel
theorem dX4_powers_16 : decode cX4_powers 16 = .ok (.if_icmp .le 6, 3) := by decide +kernel
theorem dX4_powers_19 : decode cX4_powers 19 = .ok (.bipush (-2), 2) := by decide +kernel
theorem dX4_powers_21 : decode cX4_powers 21 = .ok (.ireturn, 1) := by decide +kernel
theorem dX4_powers_22 : decode cX4_powers 22 = .ok (.aload_n 0, 1) := by decide +kernel
theorem dX4_powers_23 : decode cX4_powers 23 = .ok (.iload_n 1, 1) := by decide +kernel
theorem dX4_powers_24 : decode cX4_powers 24 = .ok (.iload_n 2, 1) := by decide +kernel
theorem dX4_powers_25 : decode cX4_powers 25 = .ok (.invokevirtual 61, 3) := by decide +kernel
theorem dX4_powers_28 : decode cX4_powers 28 = .ok (.istore 5, 2) := by decide +kernel
theorem dX4_powers_30 : decode cX4_powers 30 = .ok (.iload 5, 2) := by decide +kernel
theorem dX4_powers_32 : decode cX4_powers 32 = .ok (.ifCond .eq 6, 3) := by decide +kernel
theorem dX4_powers_35 : decode cX4_powers 35 = .ok (.iload 5, 2) := by decide +kernel
theorem dX4_powers_37 : decode cX4_powers 37 = .ok (.ireturn, 1) := by decide +kernel
theorem dX4_powers_38 : decode cX4_powers 38 = .ok (.aload_n 0, 1) := by decide +kernel
theorem dX4_powers_39 : decode cX4_powers 39 = .ok (.getfield 11, 3) := by decide +kernel
theorem dX4_powers_42 : decode cX4_powers 42 = .ok (.iload_n 1, 1) := by decide +kernel
theorem dX4_powers_43 : decode cX4_powers 43 = .ok (.aaload, 1) := by decide +kernel
theorem dX4_powers_44 : decode cX4_powers 44 = .ok (.invokevirtual 165, 3) := by decide +kernel
theorem dX4_powers_47 : decode cX4_powers 47 = .ok (.ifCond .eq 16, 3) := by decide +kernel
theorem dX4_powers_50 : decode cX4_powers 50 = .ok (.iload_n 3, 1) := by decide +kernel
theorem dX4_powers_51 : decode cX4_powers 51 = .ok (.aload_n 0, 1) := by decide +kernel
theorem dX4_powers_52 : decode cX4_powers 52 = .ok (.getfield 11, 3) := by decide +kernel
theorem dX4_powers_55 : decode cX4_powers 55 = .ok (.iload_n 1, 1) := by decide +kernel
theorem dX4_powers_56 : decode cX4_powers 56 = .ok (.aaload, 1) := by decide +kernel
theorem dX4_powers_57 : decode cX4_powers 57 = .ok (.getfield 65, 3) := by decide +kernel
theorem dX4_powers_60 : decode cX4_powers 60 = .ok (.if_icmp .le 6, 3) := by decide +kernel
theorem dX4_powers_63 : decode cX4_powers 63 = .ok (.bipush (-3), 2) := by decide +kernel
theorem dX4_powers_65 : decode cX4_powers 65 = .ok (.ireturn, 1) := by decide +kernel
theorem dX4_powers_66 : decode cX4_powers 66 = .ok (.aload_n 0, 1) := by decide +kernel
theorem dX4_powers_67 : decode cX4_powers 67 = .ok (.getfield 11, 3) := by decide +kernel
theorem dX4_powers_70 : decode cX4_powers 70 = .ok (.iload_n 2, 1) := by decide +kernel
theorem dX4_powers_71 : decode cX4_powers 71 = .ok (.aaload, 1) := by decide +kernel
theorem dX4_powers_72 : decode cX4_powers 72 = .ok (.getfield 65, 3) := by decide +kernel
theorem dX4_powers_75 : decode cX4_powers 75 = .ok (.iload_n 3, 1) := by decide +kernel
theorem dX4_powers_76 : decode cX4_powers 76 = .ok (.if_icmp .ge 9, 3) := by decide +kernel
theorem dX4_powers_79 : decode cX4_powers 79 = .ok (.aload_n 0, 1) := by decide +kernel
theorem dX4_powers_80 : decode cX4_powers 80 = .ok (.iconst 2, 1) := by decide +kernel
theorem dX4_powers_81 : decode cX4_powers 81 = .ok (.invokevirtual 53, 3) := by decide +kernel
theorem dX4_powers_84 : decode cX4_powers 84 = .ok (.ireturn, 1) := by decide +kernel
theorem dX4_powers_85 : decode cX4_powers 85 = .ok (.aload_n 0, 1) := by decide +kernel
theorem dX4_powers_86 : decode cX4_powers 86 = .ok (.iload_n 1, 1) := by decide +kernel
theorem dX4_powers_87 : decode cX4_powers 87 = .ok (.aload_n 0, 1) := by decide +kernel
theorem dX4_powers_88 : decode cX4_powers 88 = .ok (.getfield 19, 3) := by decide +kernel
theorem dX4_powers_91 : decode cX4_powers 91 = .ok (.invokevirtual 105, 3) := by decide +kernel
theorem dX4_powers_94 : decode cX4_powers 94 = .ok (.istore 6, 2) := by decide +kernel
theorem dX4_powers_96 : decode cX4_powers 96 = .ok (.aload_n 0, 1) := by decide +kernel
theorem dX4_powers_97 : decode cX4_powers 97 = .ok (.getfield 11, 3) := by decide +kernel
theorem dX4_powers_100 : decode cX4_powers 100 = .ok (.iload_n 2, 1) := by decide +kernel
theorem dX4_powers_101 : decode cX4_powers 101 = .ok (.aaload, 1) := by decide +kernel
theorem dX4_powers_102 : decode cX4_powers 102 = .ok (.iload_n 3, 1) := by decide +kernel
theorem dX4_powers_103 : decode cX4_powers 103 = .ok (.invokevirtual 169, 3) := by decide +kernel
theorem dX4_powers_106 : decode cX4_powers 106 = .ok (.ifCond .eq 19, 3) := by decide +kernel
theorem dX4_powers_109 : decode cX4_powers 109 = .ok (.aload_n 0, 1) := by decide +kernel
theorem dX4_powers_110 : decode cX4_powers 110 = .ok (.iload 6, 2) := by decide +kernel
theorem dX4_powers_112 : decode cX4_powers 112 = .ok (.aload_n 0, 1) := by decide +kernel
theorem dX4_powers_113 : decode cX4_powers 113 = .ok (.getfield 11, 3) := by decide +kernel
theorem dX4_powers_116 : decode cX4_powers 116 = .ok (.iload_n 2, 1) := by decide +kernel
theorem dX4_powers_117 : decode cX4_powers 117 = .ok (.aaload, 1) := by decide +kernel
theorem dX4_powers_118 : decode cX4_powers 118 = .ok (.iload_n 3, 1) := by decide +kernel
theorem dX4_powers_119 : decode cX4_powers 119 = .ok (.invokevirtual 172, 3) := by decide +kernel
theorem dX4_powers_122 : decode cX4_powers 122 = .ok (.ifCond .ne 6, 3) := by decide +kernel
theorem dX4_powers_125 : decode cX4_powers 125 = .ok (.bipush (-3), 2) := by decide +kernel
theorem dX4_powers_127 : decode cX4_powers 127 = .ok (.ireturn, 1) := by decide +kernel
theorem dX4_powers_128 : decode cX4_powers 128 = .ok (.aload_n 0, 1) := by decide +kernel
theorem dX4_powers_129 : decode cX4_powers 129 = .ok (.getfield 11, 3) := by decide +kernel
theorem dX4_powers_132 : decode cX4_powers 132 = .ok (.iload 4, 2) := by decide +kernel
theorem dX4_powers_134 : decode cX4_powers 134 = .ok (.aaload, 1) := by decide +kernel
theorem dX4_powers_135 : decode cX4_powers 135 = .ok (.aload_n 0, 1) := by decide +kernel
theorem dX4_powers_136 : decode cX4_powers 136 = .ok (.getfield 32, 3) := by decide +kernel
theorem dX4_powers_139 : decode cX4_powers 139 = .ok (.iload_n 3, 1) := by decide +kernel
theorem dX4_powers_140 : decode cX4_powers 140 = .ok (.invokevirtual 176, 3) := by decide +kernel
theorem dX4_powers_143 : decode cX4_powers 143 = .ok (.iload_n 3, 1) := by decide +kernel
theorem dX4_powers_144 : decode cX4_powers 144 = .ok (.ireturn, 1) := by decide +kernel
theorem dX4_build_0 : decode cX4_build 0 = .ok (.iload 5, 2) := by decide +kernel
theorem dX4_build_2 : decode cX4_build 2 = .ok (.invokestatic 46, 3) := by decide +kernel
theorem dX4_build_5 : decode cX4_build 5 = .ok (.ifCond .ne 25, 3) := by decide +kernel
theorem dX4_build_8 : decode cX4_build 8 = .ok (.iload_n 3, 1) := by decide +kernel
theorem dX4_build_9 : decode cX4_build 9 = .ok (.ifCond .lt 21, 3) := by decide +kernel
theorem dX4_build_12 : decode cX4_build 12 = .ok (.iload_n 3, 1) := by decide +kernel
theorem dX4_build_13 : decode cX4_build 13 = .ok (.bipush 12, 2) := by decide +kernel
theorem dX4_build_15 : decode cX4_build 15 = .ok (.if_icmp .gt 15, 3) := by decide +kernel
theorem dX4_build_18 : decode cX4_build 18 = .ok (.iload 4, 2) := by decide +kernel
theorem dX4_build_20 : decode cX4_build 20 = .ok (.ifCond .lt 10, 3) := by decide +kernel
theorem dX4_build_23 : decode cX4_build 23 = .ok (.iload 4, 2) := by decide +kernel
theorem dX4_build_25 : decode cX4_build 25 = .ok (.bipush 8, 2) := by decide +kernel
theorem dX4_build_27 : decode cX4_build 27 = .ok (.if_icmp .le 6, 3) := by decide +kernel
theorem dX4_build_30 : decode cX4_build 30 = .ok (.bipush (-2), 2) := by decide +kernel
theorem dX4_build_32 : decode cX4_build 32 = .ok (.ireturn, 1) := by decide +kernel
theorem dX4_build_33 : decode cX4_build 33 = .ok (.aload_n 0, 1) := by decide +kernel
theorem dX4_build_34 : decode cX4_build 34 = .ok (.iload_n 1, 1) := by decide +kernel
theorem dX4_build_35 : decode cX4_build 35 = .ok (.iload_n 2, 1) := by decide +kernel
theorem dX4_build_36 : decode cX4_build 36 = .ok (.invokevirtual 61, 3) := by decide +kernel
theorem dX4_build_39 : decode cX4_build 39 = .ok (.istore 6, 2) := by decide +kernel
theorem dX4_build_41 : decode cX4_build 41 = .ok (.iload 6, 2) := by decide +kernel
theorem dX4_build_43 : decode cX4_build 43 = .ok (.ifCond .eq 6, 3) := by decide +kernel
theorem dX4_build_46 : decode cX4_build 46 = .ok (.iload 6, 2) := by decide +kernel
theorem dX4_build_48 : decode cX4_build 48 = .ok (.ireturn, 1) := by decide +kernel
theorem dX4_build_49 : decode cX4_build 49 = .ok (.aload_n 0, 1) := by decide +kernel
theorem dX4_build_50 : decode cX4_build 50 = .ok (.getfield 11, 3) := by decide +kernel
theorem dX4_build_53 : decode cX4_build 53 = .ok (.iload_n 1, 1) := by decide +kernel
theorem dX4_build_54 : decode cX4_build 54 = .ok (.aaload, 1) := by decide +kernel
theorem dX4_build_55 : decode cX4_build 55 = .ok (.getfield 65, 3) := by decide +kernel
theorem dX4_build_58 : decode cX4_build 58 = .ok (.iload_n 3, 1) := by decide +kernel
theorem dX4_build_59 : decode cX4_build 59 = .ok (.if_icmp .lt 16, 3) := by decide +kernel
theorem dX4_build_62 : decode cX4_build 62 = .ok (.aload_n 0, 1) := by decide +kernel
theorem dX4_build_63 : decode cX4_build 63 = .ok (.getfield 11, 3) := by decide +kernel
theorem dX4_build_66 : decode cX4_build 66 = .ok (.iload_n 2, 1) := by decide +kernel
theorem dX4_build_67 : decode cX4_build 67 = .ok (.aaload, 1) := by decide +kernel
theorem dX4_build_68 : decode cX4_build 68 = .ok (.getfield 65, 3) := by decide +kernel
theorem dX4_build_71 : decode cX4_build 71 = .ok (.iload_n 3, 1) := by decide +kernel
theorem dX4_build_72 : decode cX4_build 72 = .ok (.if_icmp .ge 9, 3) := by decide +kernel
theorem dX4_build_75 : decode cX4_build 75 = .ok (.aload_n 0, 1) := by decide +kernel
theorem dX4_build_76 : decode cX4_build 76 = .ok (.iconst 2, 1) := by decide +kernel
theorem dX4_build_77 : decode cX4_build 77 = .ok (.invokevirtual 53, 3) := by decide +kernel
theorem dX4_build_80 : decode cX4_build 80 = .ok (.ireturn, 1) := by decide +kernel
theorem dX4_build_81 : decode cX4_build 81 = .ok (.aload_n 0, 1) := by decide +kernel
theorem dX4_build_82 : decode cX4_build 82 = .ok (.getfield 32, 3) := by decide +kernel
theorem dX4_build_85 : decode cX4_build 85 = .ok (.invokestatic 180, 3) := by decide +kernel
theorem dX4_build_88 : decode cX4_build 88 = .ok (.iconst 0, 1) := by decide +kernel
theorem dX4_build_89 : decode cX4_build 89 = .ok (.istore 7, 2) := by decide +kernel
theorem dX4_build_91 : decode cX4_build 91 = .ok (.iload 7, 2) := by decide +kernel
theorem dX4_build_93 : decode cX4_build 93 = .ok (.iload_n 3, 1) := by decide +kernel
theorem dX4_build_94 : decode cX4_build 94 = .ok (.if_icmp .ge 40, 3) := by decide +kernel
theorem dX4_build_97 : decode cX4_build 97 = .ok (.aload_n 0, 1) := by decide +kernel
theorem dX4_build_98 : decode cX4_build 98 = .ok (.getfield 32, 3) := by decide +kernel
theorem dX4_build_101 : decode cX4_build 101 = .ok (.iload 4, 2) := by decide +kernel
theorem dX4_build_103 : decode cX4_build 103 = .ok (.aload_n 0, 1) := by decide +kernel
theorem dX4_build_104 : decode cX4_build 104 = .ok (.getfield 11, 3) := by decide +kernel
theorem dX4_build_107 : decode cX4_build 107 = .ok (.iload_n 1, 1) := by decide +kernel
theorem dX4_build_108 : decode cX4_build 108 = .ok (.aaload, 1) := by decide +kernel
theorem dX4_build_109 : decode cX4_build 109 = .ok (.iload 7, 2) := by decide +kernel
theorem dX4_build_111 : decode cX4_build 111 = .ok (.invokevirtual 98, 3) := by decide +kernel
theorem dX4_build_114 : decode cX4_build 114 = .ok (.aload_n 0, 1) := by decide +kernel
theorem dX4_build_115 : decode cX4_build 115 = .ok (.getfield 11, 3) := by decide +kernel
theorem dX4_build_118 : decode cX4_build 118 = .ok (.iload_n 2, 1) := by decide +kernel
theorem dX4_build_119 : decode cX4_build 119 = .ok (.aaload, 1) := by decide +kernel
theorem dX4_build_120 : decode cX4_build 120 = .ok (.iload 7, 2) := by decide +kernel
theorem dX4_build_122 : decode cX4_build 122 = .ok (.invokevirtual 98, 3) := by decide +kernel
theorem dX4_build_125 : decode cX4_build 125 = .ok (.invokestatic 183, 3) := by decide +kernel
theorem dX4_build_128 : decode cX4_build 128 = .ok (.iinc 7 1, 3) := by decide +kernel
theorem dX4_build_131 : decode cX4_build 131 = .ok (.goto (-40), 3) := by decide +kernel
theorem dX4_build_134 : decode cX4_build 134 = .ok (.aload_n 0, 1) := by decide +kernel
theorem dX4_build_135 : decode cX4_build 135 = .ok (.iload 5, 2) := by decide +kernel
theorem dX4_build_137 : decode cX4_build 137 = .ok (.iload 4, 2) := by decide +kernel
theorem dX4_build_139 : decode cX4_build 139 = .ok (.invokevirtual 128, 3) := by decide +kernel
theorem dX4_build_142 : decode cX4_build 142 = .ok (.ireturn, 1) := by decide +kernel
theorem dX4_rank_0 : decode cX4_rank 0 = .ok (.iload_n 2, 1) := by decide +kernel
theorem dX4_rank_1 : decode cX4_rank 1 = .ok (.ifCond .ge 6, 3) := by decide +kernel
theorem dX4_rank_4 : decode cX4_rank 4 = .ok (.bipush (-2), 2) := by decide +kernel
theorem dX4_rank_6 : decode cX4_rank 6 = .ok (.ireturn, 1) := by decide +kernel
theorem dX4_rank_7 : decode cX4_rank 7 = .ok (.aload_n 0, 1) := by decide +kernel
theorem dX4_rank_8 : decode cX4_rank 8 = .ok (.iload_n 1, 1) := by decide +kernel
theorem dX4_rank_9 : decode cX4_rank 9 = .ok (.iload_n 1, 1) := by decide +kernel
theorem dX4_rank_10 : decode cX4_rank 10 = .ok (.invokevirtual 95, 3) := by decide +kernel
theorem dX4_rank_13 : decode cX4_rank 13 = .ok (.istore_n 3, 1) := by decide +kernel
theorem dX4_rank_14 : decode cX4_rank 14 = .ok (.iload_n 3, 1) := by decide +kernel
theorem dX4_rank_15 : decode cX4_rank 15 = .ok (.ifCond .eq 5, 3) := by decide +kernel
theorem dX4_rank_18 : decode cX4_rank 18 = .ok (.iload_n 3, 1) := by decide +kernel
theorem dX4_rank_19 : decode cX4_rank 19 = .ok (.ireturn, 1) := by decide +kernel
theorem dX4_rank_20 : decode cX4_rank 20 = .ok (.aload_n 0, 1) := by decide +kernel
theorem dX4_rank_21 : decode cX4_rank 21 = .ok (.iload_n 1, 1) := by decide +kernel
theorem dX4_rank_22 : decode cX4_rank 22 = .ok (.aload_n 0, 1) := by decide +kernel
theorem dX4_rank_23 : decode cX4_rank 23 = .ok (.getfield 19, 3) := by decide +kernel
theorem dX4_rank_26 : decode cX4_rank 26 = .ok (.invokevirtual 105, 3) := by decide +kernel
theorem dX4_rank_29 : decode cX4_rank 29 = .ok (.istore 4, 2) := by decide +kernel
theorem dX4_rank_31 : decode cX4_rank 31 = .ok (.iload_n 2, 1) := by decide +kernel
theorem dX4_rank_32 : decode cX4_rank 32 = .ok (.iload 4, 2) := by decide +kernel
theorem dX4_rank_34 : decode cX4_rank 34 = .ok (.if_icmp .le 6, 3) := by decide +kernel
theorem dX4_rank_37 : decode cX4_rank 37 = .ok (.bipush (-3), 2) := by decide +kernel
theorem dX4_rank_39 : decode cX4_rank 39 = .ok (.ireturn, 1) := by decide +kernel
theorem dX4_rank_40 : decode cX4_rank 40 = .ok (.aload_n 0, 1) := by decide +kernel
theorem dX4_rank_41 : decode cX4_rank 41 = .ok (.getfield 19, 3) := by decide +kernel
theorem dX4_rank_44 : decode cX4_rank 44 = .ok (.iload 4, 2) := by decide +kernel
theorem dX4_rank_46 : decode cX4_rank 46 = .ok (.invokestatic 186, 3) := by decide +kernel
theorem dX4_rank_49 : decode cX4_rank 49 = .ok (.aload_n 0, 1) := by decide +kernel
theorem dX4_rank_50 : decode cX4_rank 50 = .ok (.getfield 38, 3) := by decide +kernel
theorem dX4_rank_53 : decode cX4_rank 53 = .ok (.invokevirtual 155, 3) := by decide +kernel
theorem dX4_rank_56 : decode cX4_rank 56 = .ok (.aload_n 0, 1) := by decide +kernel
theorem dX4_rank_57 : decode cX4_rank 57 = .ok (.getfield 38, 3) := by decide +kernel
theorem dX4_rank_60 : decode cX4_rank 60 = .ok (.aload_n 0, 1) := by decide +kernel
theorem dX4_rank_61 : decode cX4_rank 61 = .ok (.getfield 19, 3) := by decide +kernel
theorem dX4_rank_64 : decode cX4_rank 64 = .ok (.iload 4, 2) := by decide +kernel
theorem dX4_rank_66 : decode cX4_rank 66 = .ok (.iload_n 2, 1) := by decide +kernel
theorem dX4_rank_67 : decode cX4_rank 67 = .ok (.invokevirtual 189, 3) := by decide +kernel
theorem dX4_rank_70 : decode cX4_rank 70 = .ok (.aload_n 0, 1) := by decide +kernel
theorem dX4_rank_71 : decode cX4_rank 71 = .ok (.getfield 38, 3) := by decide +kernel
theorem dX4_rank_74 : decode cX4_rank 74 = .ok (.iload_n 2, 1) := by decide +kernel
theorem dX4_rank_75 : decode cX4_rank 75 = .ok (.iconst 1, 1) := by decide +kernel
theorem dX4_rank_76 : decode cX4_rank 76 = .ok (.iadd, 1) := by decide +kernel
theorem dX4_rank_77 : decode cX4_rank 77 = .ok (.iload 4, 2) := by decide +kernel
theorem dX4_rank_79 : decode cX4_rank 79 = .ok (.iload_n 2, 1) := by decide +kernel
theorem dX4_rank_80 : decode cX4_rank 80 = .ok (.isub, 1) := by decide +kernel
theorem dX4_rank_81 : decode cX4_rank 81 = .ok (.iconst 1, 1) := by decide +kernel
theorem dX4_rank_82 : decode cX4_rank 82 = .ok (.iadd, 1) := by decide +kernel
theorem dX4_rank_83 : decode cX4_rank 83 = .ok (.iload 4, 2) := by decide +kernel
theorem dX4_rank_85 : decode cX4_rank 85 = .ok (.iload_n 2, 1) := by decide +kernel
theorem dX4_rank_86 : decode cX4_rank 86 = .ok (.isub, 1) := by decide +kernel
theorem dX4_rank_87 : decode cX4_rank 87 = .ok (.iconst 1, 1) := by decide +kernel
theorem dX4_rank_88 : decode cX4_rank 88 = .ok (.iadd, 1) := by decide +kernel
theorem dX4_rank_89 : decode cX4_rank 89 = .ok (.invokevirtual 193, 3) := by decide +kernel
theorem dX4_rank_92 : decode cX4_rank 92 = .ok (.ireturn, 1) := by decide +kernel
theorem dX4_leads_0 : decode cX4_leads 0 = .ok (.aload_n 0, 1) := by decide +kernel
theorem dX4_leads_1 : decode cX4_leads 1 = .ok (.iload_n 1, 1) := by decide +kernel
theorem dX4_leads_2 : decode cX4_leads 2 = .ok (.iload_n 2, 1) := by decide +kernel
theorem dX4_leads_3 : decode cX4_leads 3 = .ok (.iload_n 3, 1) := by decide +kernel
theorem dX4_leads_4 : decode cX4_leads 4 = .ok (.invokevirtual 196, 3) := by decide +kernel
theorem dX4_leads_7 : decode cX4_leads 7 = .ok (.istore 4, 2) := by decide +kernel
theorem dX4_leads_9 : decode cX4_leads 9 = .ok (.iload 4, 2) := by decide +kernel
theorem dX4_leads_11 : decode cX4_leads 11 = .ok (.ifCond .eq 6, 3) := by decide +kernel
theorem dX4_leads_14 : decode cX4_leads 14 = .ok (.iload 4, 2) := by decide +kernel
theorem dX4_leads_16 : decode cX4_leads 16 = .ok (.ireturn, 1) := by decide +kernel
theorem dX4_leads_17 : decode cX4_leads 17 = .ok (.aload_n 0, 1) := by decide +kernel
theorem dX4_leads_18 : decode cX4_leads 18 = .ok (.iload_n 1, 1) := by decide +kernel
theorem dX4_leads_19 : decode cX4_leads 19 = .ok (.iload_n 2, 1) := by decide +kernel
theorem dX4_leads_20 : decode cX4_leads 20 = .ok (.invokevirtual 199, 3) := by decide +kernel
theorem dX4_leads_23 : decode cX4_leads 23 = .ok (.istore 5, 2) := by decide +kernel
theorem dX4_leads_25 : decode cX4_leads 25 = .ok (.iload_n 3, 1) := by decide +kernel
theorem dX4_leads_26 : decode cX4_leads 26 = .ok (.invokestatic 202, 3) := by decide +kernel
theorem dX4_leads_29 : decode cX4_leads 29 = .ok (.istore 6, 2) := by decide +kernel
theorem dX4_leads_31 : decode cX4_leads 31 = .ok (.iconst 0, 1) := by decide +kernel
theorem dX4_leads_32 : decode cX4_leads 32 = .ok (.istore 7, 2) := by decide +kernel
theorem dX4_leads_34 : decode cX4_leads 34 = .ok (.iconst 0, 1) := by decide +kernel
theorem dX4_leads_35 : decode cX4_leads 35 = .ok (.istore 8, 2) := by decide +kernel
theorem dX4_leads_37 : decode cX4_leads 37 = .ok (.iload 8, 2) := by decide +kernel
theorem dX4_leads_39 : decode cX4_leads 39 = .ok (.iload 6, 2) := by decide +kernel
theorem dX4_leads_41 : decode cX4_leads 41 = .ok (.if_icmp .ge 24, 3) := by decide +kernel
theorem dX4_leads_44 : decode cX4_leads 44 = .ok (.aload_n 0, 1) := by decide +kernel
theorem dX4_leads_45 : decode cX4_leads 45 = .ok (.iload 5, 2) := by decide +kernel
theorem dX4_leads_47 : decode cX4_leads 47 = .ok (.iload_n 3, 1) := by decide +kernel
theorem dX4_leads_48 : decode cX4_leads 48 = .ok (.iload 8, 2) := by decide +kernel
theorem dX4_leads_50 : decode cX4_leads 50 = .ok (.invokevirtual 205, 3) := by decide +kernel
theorem dX4_leads_53 : decode cX4_leads 53 = .ok (.ifCond .eq 6, 3) := by decide +kernel
theorem dX4_leads_56 : decode cX4_leads 56 = .ok (.iinc 7 1, 3) := by decide +kernel
theorem dX4_leads_59 : decode cX4_leads 59 = .ok (.iinc 8 1, 3) := by decide +kernel
theorem dX4_leads_62 : decode cX4_leads 62 = .ok (.goto (-25), 3) := by decide +kernel
theorem dX4_leads_65 : decode cX4_leads 65 = .ok (.iload 7, 2) := by decide +kernel
theorem dX4_leads_67 : decode cX4_leads 67 = .ok (.ireturn, 1) := by decide +kernel
theorem dX4_lead_0 : decode cX4_lead 0 = .ok (.iload 4, 2) := by decide +kernel
theorem dX4_lead_2 : decode cX4_lead 2 = .ok (.ifCond .ge 6, 3) := by decide +kernel
theorem dX4_lead_5 : decode cX4_lead 5 = .ok (.bipush (-2), 2) := by decide +kernel
theorem dX4_lead_7 : decode cX4_lead 7 = .ok (.ireturn, 1) := by decide +kernel
theorem dX4_lead_8 : decode cX4_lead 8 = .ok (.aload_n 0, 1) := by decide +kernel
theorem dX4_lead_9 : decode cX4_lead 9 = .ok (.iload_n 1, 1) := by decide +kernel
theorem dX4_lead_10 : decode cX4_lead 10 = .ok (.iload_n 2, 1) := by decide +kernel
theorem dX4_lead_11 : decode cX4_lead 11 = .ok (.iload_n 3, 1) := by decide +kernel
theorem dX4_lead_12 : decode cX4_lead 12 = .ok (.invokevirtual 196, 3) := by decide +kernel
theorem dX4_lead_15 : decode cX4_lead 15 = .ok (.istore 5, 2) := by decide +kernel
theorem dX4_lead_17 : decode cX4_lead 17 = .ok (.iload 5, 2) := by decide +kernel
theorem dX4_lead_19 : decode cX4_lead 19 = .ok (.ifCond .eq 6, 3) := by decide +kernel
theorem dX4_lead_22 : decode cX4_lead 22 = .ok (.iload 5, 2) := by decide +kernel
theorem dX4_lead_24 : decode cX4_lead 24 = .ok (.ireturn, 1) := by decide +kernel
theorem dX4_lead_25 : decode cX4_lead 25 = .ok (.aload_n 0, 1) := by decide +kernel
theorem dX4_lead_26 : decode cX4_lead 26 = .ok (.iload_n 1, 1) := by decide +kernel
theorem dX4_lead_27 : decode cX4_lead 27 = .ok (.iload_n 2, 1) := by decide +kernel
theorem dX4_lead_28 : decode cX4_lead 28 = .ok (.invokevirtual 199, 3) := by decide +kernel
theorem dX4_lead_31 : decode cX4_lead 31 = .ok (.istore 6, 2) := by decide +kernel
theorem dX4_lead_33 : decode cX4_lead 33 = .ok (.iload_n 3, 1) := by decide +kernel
theorem dX4_lead_34 : decode cX4_lead 34 = .ok (.invokestatic 202, 3) := by decide +kernel
theorem dX4_lead_37 : decode cX4_lead 37 = .ok (.istore 7, 2) := by decide +kernel
theorem dX4_lead_39 : decode cX4_lead 39 = .ok (.iconst 0, 1) := by decide +kernel
theorem dX4_lead_40 : decode cX4_lead 40 = .ok (.istore 8, 2) := by decide +kernel
theorem dX4_lead_42 : decode cX4_lead 42 = .ok (.iconst 0, 1) := by decide +kernel
theorem dX4_lead_43 : decode cX4_lead 43 = .ok (.istore 9, 2) := by decide +kernel
theorem dX4_lead_45 : decode cX4_lead 45 = .ok (.iload 9, 2) := by decide +kernel
theorem dX4_lead_47 : decode cX4_lead 47 = .ok (.iload 7, 2) := by decide +kernel
theorem dX4_lead_49 : decode cX4_lead 49 = .ok (.if_icmp .ge 38, 3) := by decide +kernel
theorem dX4_lead_52 : decode cX4_lead 52 = .ok (.aload_n 0, 1) := by decide +kernel
theorem dX4_lead_53 : decode cX4_lead 53 = .ok (.iload 6, 2) := by decide +kernel
theorem dX4_lead_55 : decode cX4_lead 55 = .ok (.iload_n 3, 1) := by decide +kernel
theorem dX4_lead_56 : decode cX4_lead 56 = .ok (.iload 9, 2) := by decide +kernel
theorem dX4_lead_58 : decode cX4_lead 58 = .ok (.invokevirtual 205, 3) := by decide +kernel
theorem dX4_lead_61 : decode cX4_lead 61 = .ok (.ifCond .eq 20, 3) := by decide +kernel
theorem dX4_lead_64 : decode cX4_lead 64 = .ok (.iload 8, 2) := by decide +kernel
theorem dX4_lead_66 : decode cX4_lead 66 = .ok (.iload 4, 2) := by decide +kernel
theorem dX4_lead_68 : decode cX4_lead 68 = .ok (.if_icmp .ne 10, 3) := by decide +kernel
theorem dX4_lead_71 : decode cX4_lead 71 = .ok (.iload_n 3, 1) := by decide +kernel
theorem dX4_lead_72 : decode cX4_lead 72 = .ok (.iload 9, 2) := by decide +kernel
theorem dX4_lead_74 : decode cX4_lead 74 = .ok (.invokestatic 208, 3) := by decide +kernel
theorem dX4_lead_77 : decode cX4_lead 77 = .ok (.ireturn, 1) := by decide +kernel
theorem dX4_lead_78 : decode cX4_lead 78 = .ok (.iinc 8 1, 3) := by decide +kernel
theorem dX4_lead_81 : decode cX4_lead 81 = .ok (.iinc 9 1, 3) := by decide +kernel
theorem dX4_lead_84 : decode cX4_lead 84 = .ok (.goto (-39), 3) := by decide +kernel
theorem dX4_lead_87 : decode cX4_lead 87 = .ok (.iconst (-1), 1) := by decide +kernel
theorem dX4_lead_88 : decode cX4_lead 88 = .ok (.ireturn, 1) := by decide +kernel
theorem dX4_staying_0 : decode cX4_staying 0 = .ok (.iload_n 1, 1) := by decide +kernel
theorem dX4_staying_1 : decode cX4_staying 1 = .ok (.iconst 1, 1) := by decide +kernel
theorem dX4_staying_2 : decode cX4_staying 2 = .ok (.if_icmp .lt 30, 3) := by decide +kernel
theorem dX4_staying_5 : decode cX4_staying 5 = .ok (.iload_n 1, 1) := by decide +kernel
theorem dX4_staying_6 : decode cX4_staying 6 = .ok (.bipush 8, 2) := by decide +kernel
theorem dX4_staying_8 : decode cX4_staying 8 = .ok (.if_icmp .gt 24, 3) := by decide +kernel
theorem dX4_staying_11 : decode cX4_staying 11 = .ok (.iload_n 2, 1) := by decide +kernel
theorem dX4_staying_12 : decode cX4_staying 12 = .ok (.ifCond .lt 20, 3) := by decide +kernel
theorem dX4_staying_15 : decode cX4_staying 15 = .ok (.iload_n 2, 1) := by decide +kernel
theorem dX4_staying_16 : decode cX4_staying 16 = .ok (.bipush 8, 2) := by decide +kernel
theorem dX4_staying_18 : decode cX4_staying 18 = .ok (.if_icmp .gt 14, 3) := by decide +kernel
theorem dX4_staying_21 : decode cX4_staying 21 = .ok (.iload_n 3, 1) := by decide +kernel
theorem dX4_staying_22 : decode cX4_staying 22 = .ok (.ifCond .lt 10, 3) := by decide +kernel
theorem dX4_staying_25 : decode cX4_staying 25 = .ok (.iload_n 3, 1) := by decide +kernel
theorem dX4_staying_26 : decode cX4_staying 26 = .ok (.iload_n 1, 1) := by decide +kernel
theorem dX4_staying_27 : decode cX4_staying 27 = .ok (.iload_n 2, 1) := by decide +kernel
theorem dX4_staying_28 : decode cX4_staying 28 = .ok (.imul, 1) := by decide +kernel
theorem dX4_staying_29 : decode cX4_staying 29 = .ok (.if_icmp .le 6, 3) := by decide +kernel
theorem dX4_staying_32 : decode cX4_staying 32 = .ok (.bipush (-2), 2) := by decide +kernel
theorem dX4_staying_34 : decode cX4_staying 34 = .ok (.ireturn, 1) := by decide +kernel
theorem dX4_staying_35 : decode cX4_staying 35 = .ok (.iload_n 1, 1) := by decide +kernel
theorem dX4_staying_36 : decode cX4_staying 36 = .ok (.iload_n 2, 1) := by decide +kernel
theorem dX4_staying_37 : decode cX4_staying 37 = .ok (.imul, 1) := by decide +kernel
theorem dX4_staying_38 : decode cX4_staying 38 = .ok (.iload_n 3, 1) := by decide +kernel
theorem dX4_staying_39 : decode cX4_staying 39 = .ok (.isub, 1) := by decide +kernel
theorem dX4_staying_40 : decode cX4_staying 40 = .ok (.istore 4, 2) := by decide +kernel
theorem dX4_staying_42 : decode cX4_staying 42 = .ok (.iload 4, 2) := by decide +kernel
theorem dX4_staying_44 : decode cX4_staying 44 = .ok (.iconst 2, 1) := by decide +kernel
theorem dX4_staying_45 : decode cX4_staying 45 = .ok (.irem, 1) := by decide +kernel
theorem dX4_staying_46 : decode cX4_staying 46 = .ok (.ifCond .eq 5, 3) := by decide +kernel
theorem dX4_staying_49 : decode cX4_staying 49 = .ok (.iconst 0, 1) := by decide +kernel
theorem dX4_staying_50 : decode cX4_staying 50 = .ok (.ireturn, 1) := by decide +kernel
theorem dX4_staying_51 : decode cX4_staying 51 = .ok (.iload 4, 2) := by decide +kernel
theorem dX4_staying_53 : decode cX4_staying 53 = .ok (.iconst 2, 1) := by decide +kernel
theorem dX4_staying_54 : decode cX4_staying 54 = .ok (.idiv, 1) := by decide +kernel
theorem dX4_staying_55 : decode cX4_staying 55 = .ok (.istore 5, 2) := by decide +kernel
theorem dX4_staying_57 : decode cX4_staying 57 = .ok (.aload_n 0, 1) := by decide +kernel
theorem dX4_staying_58 : decode cX4_staying 58 = .ok (.iload_n 1, 1) := by decide +kernel
theorem dX4_staying_59 : decode cX4_staying 59 = .ok (.iload_n 2, 1) := by decide +kernel
theorem dX4_staying_60 : decode cX4_staying 60 = .ok (.iload 5, 2) := by decide +kernel
theorem dX4_staying_62 : decode cX4_staying 62 = .ok (.invokevirtual 211, 3) := by decide +kernel
theorem dX4_staying_65 : decode cX4_staying 65 = .ok (.aload_n 0, 1) := by decide +kernel
theorem dX4_staying_66 : decode cX4_staying 66 = .ok (.getfield 42, 3) := by decide +kernel
theorem dX4_staying_69 : decode cX4_staying 69 = .ok (.iload_n 2, 1) := by decide +kernel
theorem dX4_staying_70 : decode cX4_staying 70 = .ok (.bipush 33, 2) := by decide +kernel
theorem dX4_staying_72 : decode cX4_staying 72 = .ok (.imul, 1) := by decide +kernel
theorem dX4_staying_73 : decode cX4_staying 73 = .ok (.iload 5, 2) := by decide +kernel
theorem dX4_staying_75 : decode cX4_staying 75 = .ok (.iadd, 1) := by decide +kernel
theorem dX4_staying_76 : decode cX4_staying 76 = .ok (.iaload, 1) := by decide +kernel
theorem dX4_staying_77 : decode cX4_staying 77 = .ok (.istore 6, 2) := by decide +kernel
theorem dX4_staying_79 : decode cX4_staying 79 = .ok (.iload 5, 2) := by decide +kernel
theorem dX4_staying_81 : decode cX4_staying 81 = .ok (.ifCond .ne 8, 3) := by decide +kernel
theorem dX4_staying_84 : decode cX4_staying 84 = .ok (.iload 6, 2) := by decide +kernel
theorem dX4_staying_86 : decode cX4_staying 86 = .ok (.goto 20, 3) := by decide +kernel
theorem dX4_staying_89 : decode cX4_staying 89 = .ok (.iload 6, 2) := by decide +kernel
theorem dX4_staying_91 : decode cX4_staying 91 = .ok (.aload_n 0, 1) := by decide +kernel
theorem dX4_staying_92 : decode cX4_staying 92 = .ok (.getfield 42, 3) := by decide +kernel
theorem dX4_staying_95 : decode cX4_staying 95 = .ok (.iload_n 2, 1) := by decide +kernel
theorem dX4_staying_96 : decode cX4_staying 96 = .ok (.bipush 33, 2) := by decide +kernel
theorem dX4_staying_98 : decode cX4_staying 98 = .ok (.imul, 1) := by decide +kernel
theorem dX4_staying_99 : decode cX4_staying 99 = .ok (.iload 5, 2) := by decide +kernel
theorem dX4_staying_101 : decode cX4_staying 101 = .ok (.iadd, 1) := by decide +kernel
theorem dX4_staying_102 : decode cX4_staying 102 = .ok (.iconst 1, 1) := by decide +kernel
theorem dX4_staying_103 : decode cX4_staying 103 = .ok (.isub, 1) := by decide +kernel
theorem dX4_staying_104 : decode cX4_staying 104 = .ok (.iaload, 1) := by decide +kernel
theorem dX4_staying_105 : decode cX4_staying 105 = .ok (.isub, 1) := by decide +kernel
theorem dX4_staying_106 : decode cX4_staying 106 = .ok (.ireturn, 1) := by decide +kernel
theorem dX4_count_0 : decode cX4_count 0 = .ok (.iload_n 1, 1) := by decide +kernel
theorem dX4_count_1 : decode cX4_count 1 = .ok (.tableswitch 44 0 2 #[27, 33, 38], 27) := by decide +kernel
theorem dX4_count_28 : decode cX4_count 28 = .ok (.aload_n 0, 1) := by decide +kernel
theorem dX4_count_29 : decode cX4_count 29 = .ok (.iconst 0, 1) := by decide +kernel
theorem dX4_count_30 : decode cX4_count 30 = .ok (.invokevirtual 214, 3) := by decide +kernel
theorem dX4_count_33 : decode cX4_count 33 = .ok (.ireturn, 1) := by decide +kernel
theorem dX4_count_34 : decode cX4_count 34 = .ok (.aload_n 0, 1) := by decide +kernel
theorem dX4_count_35 : decode cX4_count 35 = .ok (.getfield 15, 3) := by decide +kernel
theorem dX4_count_38 : decode cX4_count 38 = .ok (.ireturn, 1) := by decide +kernel
theorem dX4_count_39 : decode cX4_count 39 = .ok (.aload_n 0, 1) := by decide +kernel
theorem dX4_count_40 : decode cX4_count 40 = .ok (.iconst 1, 1) := by decide +kernel
theorem dX4_count_41 : decode cX4_count 41 = .ok (.invokevirtual 214, 3) := by decide +kernel
theorem dX4_count_44 : decode cX4_count 44 = .ok (.ireturn, 1) := by decide +kernel
theorem dX4_count_45 : decode cX4_count 45 = .ok (.bipush (-2), 2) := by decide +kernel
theorem dX4_count_47 : decode cX4_count 47 = .ok (.ireturn, 1) := by decide +kernel
theorem dX4_digest_0 : decode cX4_digest 0 = .ok (.ldc2_w 218, 3) := by decide +kernel
theorem dX4_digest_3 : decode cX4_digest 3 = .ok (.lstore_n 1, 1) := by decide +kernel
theorem dX4_digest_4 : decode cX4_digest 4 = .ok (.ldc2_w 220, 3) := by decide +kernel
theorem dX4_digest_7 : decode cX4_digest 7 = .ok (.lload_n 1, 1) := by decide +kernel
theorem dX4_digest_8 : decode cX4_digest 8 = .ok (.lmul, 1) := by decide +kernel
theorem dX4_digest_9 : decode cX4_digest 9 = .ok (.aload_n 0, 1) := by decide +kernel
theorem dX4_digest_10 : decode cX4_digest 10 = .ok (.iconst 0, 1) := by decide +kernel
theorem dX4_digest_11 : decode cX4_digest 11 = .ok (.invokevirtual 214, 3) := by decide +kernel
theorem dX4_digest_14 : decode cX4_digest 14 = .ok (.i2l, 1) := by decide +kernel
theorem dX4_digest_15 : decode cX4_digest 15 = .ok (.ladd, 1) := by decide +kernel
theorem dX4_digest_16 : decode cX4_digest 16 = .ok (.lstore_n 1, 1) := by decide +kernel
theorem dX4_digest_17 : decode cX4_digest 17 = .ok (.ldc2_w 220, 3) := by decide +kernel
theorem dX4_digest_20 : decode cX4_digest 20 = .ok (.lload_n 1, 1) := by decide +kernel
theorem dX4_digest_21 : decode cX4_digest 21 = .ok (.lmul, 1) := by decide +kernel
theorem dX4_digest_22 : decode cX4_digest 22 = .ok (.aload_n 0, 1) := by decide +kernel
theorem dX4_digest_23 : decode cX4_digest 23 = .ok (.iconst 1, 1) := by decide +kernel
theorem dX4_digest_24 : decode cX4_digest 24 = .ok (.invokevirtual 214, 3) := by decide +kernel
theorem dX4_digest_27 : decode cX4_digest 27 = .ok (.i2l, 1) := by decide +kernel
theorem dX4_digest_28 : decode cX4_digest 28 = .ok (.ladd, 1) := by decide +kernel
theorem dX4_digest_29 : decode cX4_digest 29 = .ok (.lstore_n 1, 1) := by decide +kernel
theorem dX4_digest_30 : decode cX4_digest 30 = .ok (.iconst 0, 1) := by decide +kernel
theorem dX4_digest_31 : decode cX4_digest 31 = .ok (.istore_n 3, 1) := by decide +kernel
theorem dX4_digest_32 : decode cX4_digest 32 = .ok (.iload_n 3, 1) := by decide +kernel
theorem dX4_digest_33 : decode cX4_digest 33 = .ok (.bipush 10, 2) := by decide +kernel
theorem dX4_digest_35 : decode cX4_digest 35 = .ok (.if_icmp .ge 41, 3) := by decide +kernel
theorem dX4_digest_38 : decode cX4_digest 38 = .ok (.aload_n 0, 1) := by decide +kernel
theorem dX4_digest_39 : decode cX4_digest 39 = .ok (.getfield 11, 3) := by decide +kernel
theorem dX4_digest_42 : decode cX4_digest 42 = .ok (.iload_n 3, 1) := by decide +kernel
theorem dX4_digest_43 : decode cX4_digest 43 = .ok (.aaload, 1) := by decide +kernel
theorem dX4_digest_44 : decode cX4_digest 44 = .ok (.invokevirtual 165, 3) := by decide +kernel
theorem dX4_digest_47 : decode cX4_digest 47 = .ok (.ifCond .eq 23, 3) := by decide +kernel
theorem dX4_digest_50 : decode cX4_digest 50 = .ok (.ldc2_w 220, 3) := by decide +kernel
theorem dX4_digest_53 : decode cX4_digest 53 = .ok (.lload_n 1, 1) := by decide +kernel
theorem dX4_digest_54 : decode cX4_digest 54 = .ok (.lmul, 1) := by decide +kernel
theorem dX4_digest_55 : decode cX4_digest 55 = .ok (.iload_n 3, 1) := by decide +kernel
theorem dX4_digest_56 : decode cX4_digest 56 = .ok (.i2l, 1) := by decide +kernel
theorem dX4_digest_57 : decode cX4_digest 57 = .ok (.ladd, 1) := by decide +kernel
theorem dX4_digest_58 : decode cX4_digest 58 = .ok (.lstore_n 1, 1) := by decide +kernel
theorem dX4_digest_59 : decode cX4_digest 59 = .ok (.aload_n 0, 1) := by decide +kernel
theorem dX4_digest_60 : decode cX4_digest 60 = .ok (.getfield 11, 3) := by decide +kernel
theorem dX4_digest_63 : decode cX4_digest 63 = .ok (.iload_n 3, 1) := by decide +kernel
theorem dX4_digest_64 : decode cX4_digest 64 = .ok (.aaload, 1) := by decide +kernel
theorem dX4_digest_65 : decode cX4_digest 65 = .ok (.lload_n 1, 1) := by decide +kernel
theorem dX4_digest_66 : decode cX4_digest 66 = .ok (.invokevirtual 222, 3) := by decide +kernel
theorem dX4_digest_69 : decode cX4_digest 69 = .ok (.lstore_n 1, 1) := by decide +kernel
theorem dX4_digest_70 : decode cX4_digest 70 = .ok (.iinc 3 1, 3) := by decide +kernel
theorem dX4_digest_73 : decode cX4_digest 73 = .ok (.goto (-41), 3) := by decide +kernel
theorem dX4_digest_76 : decode cX4_digest 76 = .ok (.lload_n 1, 1) := by decide +kernel
theorem dX4_digest_77 : decode cX4_digest 77 = .ok (.lreturn, 1) := by decide +kernel
theorem dX4_noSheet_0 : decode cX4_noSheet 0 = .ok (.iload_n 0, 1) := by decide +kernel
theorem dX4_noSheet_1 : decode cX4_noSheet 1 = .ok (.ifCond .lt 9, 3) := by decide +kernel
theorem dX4_noSheet_4 : decode cX4_noSheet 4 = .ok (.iload_n 0, 1) := by decide +kernel
theorem dX4_noSheet_5 : decode cX4_noSheet 5 = .ok (.bipush 10, 2) := by decide +kernel
theorem dX4_noSheet_7 : decode cX4_noSheet 7 = .ok (.if_icmp .lt 7, 3) := by decide +kernel
theorem dX4_noSheet_10 : decode cX4_noSheet 10 = .ok (.iconst 1, 1) := by decide +kernel
theorem dX4_noSheet_11 : decode cX4_noSheet 11 = .ok (.goto 4, 3) := by decide +kernel
theorem dX4_noSheet_14 : decode cX4_noSheet 14 = .ok (.iconst 0, 1) := by decide +kernel
theorem dX4_noSheet_15 : decode cX4_noSheet 15 = .ok (.ireturn, 1) := by decide +kernel
theorem dX4_noKind_0 : decode cX4_noKind 0 = .ok (.iload_n 0, 1) := by decide +kernel
theorem dX4_noKind_1 : decode cX4_noKind 1 = .ok (.ifCond .lt 8, 3) := by decide +kernel
theorem dX4_noKind_4 : decode cX4_noKind 4 = .ok (.iload_n 0, 1) := by decide +kernel
theorem dX4_noKind_5 : decode cX4_noKind 5 = .ok (.iconst 2, 1) := by decide +kernel
theorem dX4_noKind_6 : decode cX4_noKind 6 = .ok (.if_icmp .le 7, 3) := by decide +kernel
theorem dX4_noKind_9 : decode cX4_noKind 9 = .ok (.iconst 1, 1) := by decide +kernel
theorem dX4_noKind_10 : decode cX4_noKind 10 = .ok (.goto 4, 3) := by decide +kernel
theorem dX4_noKind_13 : decode cX4_noKind 13 = .ok (.iconst 0, 1) := by decide +kernel
theorem dX4_noKind_14 : decode cX4_noKind 14 = .ok (.ireturn, 1) := by decide +kernel
theorem dX4_found_0 : decode cX4_found 0 = .ok (.aload_n 0, 1) := by decide +kernel
theorem dX4_found_1 : decode cX4_found 1 = .ok (.iload_n 1, 1) := by decide +kernel
theorem dX4_found_2 : decode cX4_found 2 = .ok (.putfield 15, 3) := by decide +kernel
theorem dX4_found_5 : decode cX4_found 5 = .ok (.bipush (-10), 2) := by decide +kernel
theorem dX4_found_7 : decode cX4_found 7 = .ok (.iload_n 1, 1) := by decide +kernel
theorem dX4_found_8 : decode cX4_found 8 = .ok (.isub, 1) := by decide +kernel
theorem dX4_found_9 : decode cX4_found 9 = .ok (.ireturn, 1) := by decide +kernel
theorem dX4_refuseSheets_0 : decode cX4_refuseSheets 0 = .ok (.iload_n 1, 1) := by decide +kernel
theorem dX4_refuseSheets_1 : decode cX4_refuseSheets 1 = .ok (.invokestatic 46, 3) := by decide +kernel
theorem dX4_refuseSheets_4 : decode cX4_refuseSheets 4 = .ok (.ifCond .ne 10, 3) := by decide +kernel
theorem dX4_refuseSheets_7 : decode cX4_refuseSheets 7 = .ok (.iload_n 2, 1) := by decide +kernel
theorem dX4_refuseSheets_8 : decode cX4_refuseSheets 8 = .ok (.invokestatic 46, 3) := by decide +kernel
theorem dX4_refuseSheets_11 : decode cX4_refuseSheets 11 = .ok (.ifCond .eq 6, 3) := by decide +kernel
theorem dX4_refuseSheets_14 : decode cX4_refuseSheets 14 = .ok (.bipush (-2), 2) := by decide +kernel
theorem dX4_refuseSheets_16 : decode cX4_refuseSheets 16 = .ok (.ireturn, 1) := by decide +kernel
theorem dX4_refuseSheets_17 : decode cX4_refuseSheets 17 = .ok (.aload_n 0, 1) := by decide +kernel
theorem dX4_refuseSheets_18 : decode cX4_refuseSheets 18 = .ok (.getfield 11, 3) := by decide +kernel
theorem dX4_refuseSheets_21 : decode cX4_refuseSheets 21 = .ok (.iload_n 1, 1) := by decide +kernel
theorem dX4_refuseSheets_22 : decode cX4_refuseSheets 22 = .ok (.aaload, 1) := by decide +kernel
theorem dX4_refuseSheets_23 : decode cX4_refuseSheets 23 = .ok (.invokevirtual 226, 3) := by decide +kernel
theorem dX4_refuseSheets_26 : decode cX4_refuseSheets 26 = .ok (.ifCond .ne 15, 3) := by decide +kernel
theorem dX4_refuseSheets_29 : decode cX4_refuseSheets 29 = .ok (.aload_n 0, 1) := by decide +kernel
theorem dX4_refuseSheets_30 : decode cX4_refuseSheets 30 = .ok (.getfield 11, 3) := by decide +kernel
theorem dX4_refuseSheets_33 : decode cX4_refuseSheets 33 = .ok (.iload_n 2, 1) := by decide +kernel
theorem dX4_refuseSheets_34 : decode cX4_refuseSheets 34 = .ok (.aaload, 1) := by decide +kernel
theorem dX4_refuseSheets_35 : decode cX4_refuseSheets 35 = .ok (.invokevirtual 226, 3) := by decide +kernel
theorem dX4_refuseSheets_38 : decode cX4_refuseSheets 38 = .ok (.ifCond .eq 11, 3) := by decide +kernel
theorem dX4_refuseSheets_41 : decode cX4_refuseSheets 41 = .ok (.aload_n 0, 1) := by decide +kernel
theorem dX4_refuseSheets_42 : decode cX4_refuseSheets 42 = .ok (.iconst 1, 1) := by decide +kernel
theorem dX4_refuseSheets_43 : decode cX4_refuseSheets 43 = .ok (.invokevirtual 53, 3) := by decide +kernel
theorem dX4_refuseSheets_46 : decode cX4_refuseSheets 46 = .ok (.goto 4, 3) := by decide +kernel
theorem dX4_refuseSheets_49 : decode cX4_refuseSheets 49 = .ok (.iconst 0, 1) := by decide +kernel
theorem dX4_refuseSheets_50 : decode cX4_refuseSheets 50 = .ok (.ireturn, 1) := by decide +kernel
theorem dX4_refuseItem_0 : decode cX4_refuseItem 0 = .ok (.iload_n 2, 1) := by decide +kernel
theorem dX4_refuseItem_1 : decode cX4_refuseItem 1 = .ok (.invokestatic 50, 3) := by decide +kernel
theorem dX4_refuseItem_4 : decode cX4_refuseItem 4 = .ok (.ifCond .eq 6, 3) := by decide +kernel
theorem dX4_refuseItem_7 : decode cX4_refuseItem 7 = .ok (.bipush (-2), 2) := by decide +kernel
theorem dX4_refuseItem_9 : decode cX4_refuseItem 9 = .ok (.ireturn, 1) := by decide +kernel
theorem dX4_refuseItem_10 : decode cX4_refuseItem 10 = .ok (.aload_n 0, 1) := by decide +kernel
theorem dX4_refuseItem_11 : decode cX4_refuseItem 11 = .ok (.iload_n 1, 1) := by decide +kernel
theorem dX4_refuseItem_12 : decode cX4_refuseItem 12 = .ok (.iload_n 1, 1) := by decide +kernel
theorem dX4_refuseItem_13 : decode cX4_refuseItem 13 = .ok (.invokevirtual 61, 3) := by decide +kernel
theorem dX4_refuseItem_16 : decode cX4_refuseItem 16 = .ok (.istore 4, 2) := by decide +kernel
theorem dX4_refuseItem_18 : decode cX4_refuseItem 18 = .ok (.iload 4, 2) := by decide +kernel
theorem dX4_refuseItem_20 : decode cX4_refuseItem 20 = .ok (.ifCond .eq 6, 3) := by decide +kernel
theorem dX4_refuseItem_23 : decode cX4_refuseItem 23 = .ok (.iload 4, 2) := by decide +kernel
theorem dX4_refuseItem_25 : decode cX4_refuseItem 25 = .ok (.ireturn, 1) := by decide +kernel
theorem dX4_refuseItem_26 : decode cX4_refuseItem 26 = .ok (.aload_n 0, 1) := by decide +kernel
theorem dX4_refuseItem_27 : decode cX4_refuseItem 27 = .ok (.getfield 11, 3) := by decide +kernel
theorem dX4_refuseItem_30 : decode cX4_refuseItem 30 = .ok (.iload_n 1, 1) := by decide +kernel
theorem dX4_refuseItem_31 : decode cX4_refuseItem 31 = .ok (.aaload, 1) := by decide +kernel
theorem dX4_refuseItem_32 : decode cX4_refuseItem 32 = .ok (.getfield 82, 3) := by decide +kernel
theorem dX4_refuseItem_35 : decode cX4_refuseItem 35 = .ok (.iload_n 2, 1) := by decide +kernel
theorem dX4_refuseItem_36 : decode cX4_refuseItem 36 = .ok (.if_icmp .eq 9, 3) := by decide +kernel
theorem dX4_refuseItem_39 : decode cX4_refuseItem 39 = .ok (.aload_n 0, 1) := by decide +kernel
theorem dX4_refuseItem_40 : decode cX4_refuseItem 40 = .ok (.iconst 3, 1) := by decide +kernel
theorem dX4_refuseItem_41 : decode cX4_refuseItem 41 = .ok (.invokevirtual 53, 3) := by decide +kernel
theorem dX4_refuseItem_44 : decode cX4_refuseItem 44 = .ok (.ireturn, 1) := by decide +kernel
theorem dX4_refuseItem_45 : decode cX4_refuseItem 45 = .ok (.aload_n 0, 1) := by decide +kernel
theorem dX4_refuseItem_46 : decode cX4_refuseItem 46 = .ok (.getfield 11, 3) := by decide +kernel
theorem dX4_refuseItem_49 : decode cX4_refuseItem 49 = .ok (.iload_n 1, 1) := by decide +kernel
theorem dX4_refuseItem_50 : decode cX4_refuseItem 50 = .ok (.aaload, 1) := by decide +kernel
theorem dX4_refuseItem_51 : decode cX4_refuseItem 51 = .ok (.iload_n 3, 1) := by decide +kernel
theorem dX4_refuseItem_52 : decode cX4_refuseItem 52 = .ok (.iconst 1, 1) := by decide +kernel
theorem dX4_refuseItem_53 : decode cX4_refuseItem 53 = .ok (.invokevirtual 85, 3) := by decide +kernel
theorem dX4_refuseItem_56 : decode cX4_refuseItem 56 = .ok (.ifCond .eq 7, 3) := by decide +kernel
theorem dX4_refuseItem_59 : decode cX4_refuseItem 59 = .ok (.iconst 0, 1) := by decide +kernel
theorem dX4_refuseItem_60 : decode cX4_refuseItem 60 = .ok (.goto 8, 3) := by decide +kernel
theorem dX4_refuseItem_63 : decode cX4_refuseItem 63 = .ok (.aload_n 0, 1) := by decide +kernel
theorem dX4_refuseItem_64 : decode cX4_refuseItem 64 = .ok (.iconst 2, 1) := by decide +kernel
theorem dX4_refuseItem_65 : decode cX4_refuseItem 65 = .ok (.invokevirtual 53, 3) := by decide +kernel
theorem dX4_refuseItem_68 : decode cX4_refuseItem 68 = .ok (.ireturn, 1) := by decide +kernel
theorem dX4_refuseForms_0 : decode cX4_refuseForms 0 = .ok (.aload_n 0, 1) := by decide +kernel
theorem dX4_refuseForms_1 : decode cX4_refuseForms 1 = .ok (.iload_n 1, 1) := by decide +kernel
theorem dX4_refuseForms_2 : decode cX4_refuseForms 2 = .ok (.iload_n 2, 1) := by decide +kernel
theorem dX4_refuseForms_3 : decode cX4_refuseForms 3 = .ok (.invokevirtual 61, 3) := by decide +kernel
theorem dX4_refuseForms_6 : decode cX4_refuseForms 6 = .ok (.istore_n 3, 1) := by decide +kernel
theorem dX4_refuseForms_7 : decode cX4_refuseForms 7 = .ok (.iload_n 3, 1) := by decide +kernel
theorem dX4_refuseForms_8 : decode cX4_refuseForms 8 = .ok (.ifCond .eq 5, 3) := by decide +kernel
theorem dX4_refuseForms_11 : decode cX4_refuseForms 11 = .ok (.iload_n 3, 1) := by decide +kernel
theorem dX4_refuseForms_12 : decode cX4_refuseForms 12 = .ok (.ireturn, 1) := by decide +kernel
theorem dX4_refuseForms_13 : decode cX4_refuseForms 13 = .ok (.aload_n 0, 1) := by decide +kernel
theorem dX4_refuseForms_14 : decode cX4_refuseForms 14 = .ok (.getfield 11, 3) := by decide +kernel
theorem dX4_refuseForms_17 : decode cX4_refuseForms 17 = .ok (.iload_n 1, 1) := by decide +kernel
theorem dX4_refuseForms_18 : decode cX4_refuseForms 18 = .ok (.aaload, 1) := by decide +kernel
theorem dX4_refuseForms_19 : decode cX4_refuseForms 19 = .ok (.invokevirtual 165, 3) := by decide +kernel
theorem dX4_refuseForms_22 : decode cX4_refuseForms 22 = .ok (.ifCond .eq 19, 3) := by decide +kernel
theorem dX4_refuseForms_25 : decode cX4_refuseForms 25 = .ok (.aload_n 0, 1) := by decide +kernel
theorem dX4_refuseForms_26 : decode cX4_refuseForms 26 = .ok (.getfield 11, 3) := by decide +kernel
theorem dX4_refuseForms_29 : decode cX4_refuseForms 29 = .ok (.iload_n 2, 1) := by decide +kernel
theorem dX4_refuseForms_30 : decode cX4_refuseForms 30 = .ok (.aaload, 1) := by decide +kernel
theorem dX4_refuseForms_31 : decode cX4_refuseForms 31 = .ok (.invokevirtual 165, 3) := by decide +kernel
theorem dX4_refuseForms_34 : decode cX4_refuseForms 34 = .ok (.ifCond .eq 7, 3) := by decide +kernel
theorem dX4_refuseForms_37 : decode cX4_refuseForms 37 = .ok (.iconst 0, 1) := by decide +kernel
theorem dX4_refuseForms_38 : decode cX4_refuseForms 38 = .ok (.goto 5, 3) := by decide +kernel
theorem dX4_refuseForms_41 : decode cX4_refuseForms 41 = .ok (.bipush (-3), 2) := by decide +kernel
theorem dX4_refuseForms_43 : decode cX4_refuseForms 43 = .ok (.ireturn, 1) := by decide +kernel
theorem dX4_refuseRoots_0 : decode cX4_refuseRoots 0 = .ok (.aload_n 0, 1) := by decide +kernel
theorem dX4_refuseRoots_1 : decode cX4_refuseRoots 1 = .ok (.iload_n 1, 1) := by decide +kernel
theorem dX4_refuseRoots_2 : decode cX4_refuseRoots 2 = .ok (.iload_n 2, 1) := by decide +kernel
theorem dX4_refuseRoots_3 : decode cX4_refuseRoots 3 = .ok (.invokevirtual 95, 3) := by decide +kernel
theorem dX4_refuseRoots_6 : decode cX4_refuseRoots 6 = .ok (.istore_n 3, 1) := by decide +kernel
theorem dX4_refuseRoots_7 : decode cX4_refuseRoots 7 = .ok (.iload_n 3, 1) := by decide +kernel
theorem dX4_refuseRoots_8 : decode cX4_refuseRoots 8 = .ok (.ifCond .eq 5, 3) := by decide +kernel
theorem dX4_refuseRoots_11 : decode cX4_refuseRoots 11 = .ok (.iload_n 3, 1) := by decide +kernel
theorem dX4_refuseRoots_12 : decode cX4_refuseRoots 12 = .ok (.ireturn, 1) := by decide +kernel
theorem dX4_refuseRoots_13 : decode cX4_refuseRoots 13 = .ok (.aload_n 0, 1) := by decide +kernel
theorem dX4_refuseRoots_14 : decode cX4_refuseRoots 14 = .ok (.getfield 11, 3) := by decide +kernel
theorem dX4_refuseRoots_17 : decode cX4_refuseRoots 17 = .ok (.iload_n 1, 1) := by decide +kernel
theorem dX4_refuseRoots_18 : decode cX4_refuseRoots 18 = .ok (.aaload, 1) := by decide +kernel
theorem dX4_refuseRoots_19 : decode cX4_refuseRoots 19 = .ok (.invokevirtual 229, 3) := by decide +kernel
theorem dX4_refuseRoots_22 : decode cX4_refuseRoots 22 = .ok (.ifCond .ne 15, 3) := by decide +kernel
theorem dX4_refuseRoots_25 : decode cX4_refuseRoots 25 = .ok (.aload_n 0, 1) := by decide +kernel
theorem dX4_refuseRoots_26 : decode cX4_refuseRoots 26 = .ok (.getfield 11, 3) := by decide +kernel
theorem dX4_refuseRoots_29 : decode cX4_refuseRoots 29 = .ok (.iload_n 2, 1) := by decide +kernel
theorem dX4_refuseRoots_30 : decode cX4_refuseRoots 30 = .ok (.aaload, 1) := by decide +kernel
theorem dX4_refuseRoots_31 : decode cX4_refuseRoots 31 = .ok (.invokevirtual 229, 3) := by decide +kernel
theorem dX4_refuseRoots_34 : decode cX4_refuseRoots 34 = .ok (.ifCond .eq 8, 3) := by decide +kernel
theorem dX4_refuseRoots_37 : decode cX4_refuseRoots 37 = .ok (.bipush (-3), 2) := by decide +kernel
theorem dX4_refuseRoots_39 : decode cX4_refuseRoots 39 = .ok (.goto 4, 3) := by decide +kernel
theorem dX4_refuseRoots_42 : decode cX4_refuseRoots 42 = .ok (.iconst 0, 1) := by decide +kernel
theorem dX4_refuseRoots_43 : decode cX4_refuseRoots 43 = .ok (.ireturn, 1) := by decide +kernel
theorem dX4_refuseLeads_0 : decode cX4_refuseLeads 0 = .ok (.iload_n 3, 1) := by decide +kernel
theorem dX4_refuseLeads_1 : decode cX4_refuseLeads 1 = .ok (.iconst 1, 1) := by decide +kernel
theorem dX4_refuseLeads_2 : decode cX4_refuseLeads 2 = .ok (.if_icmp .lt 8, 3) := by decide +kernel
theorem dX4_refuseLeads_5 : decode cX4_refuseLeads 5 = .ok (.iload_n 3, 1) := by decide +kernel
theorem dX4_refuseLeads_6 : decode cX4_refuseLeads 6 = .ok (.iconst 2, 1) := by decide +kernel
