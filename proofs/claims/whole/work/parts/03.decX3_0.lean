theorem dX3_init_0 : decode cX3_init 0 = .ok (.aload_n 0, 1) := by decide +kernel
theorem dX3_init_1 : decode cX3_init 1 = .ok (.invokespecial 3, 3) := by decide +kernel
theorem dX3_init_4 : decode cX3_init 4 = .ok (.aload_n 0, 1) := by decide +kernel
theorem dX3_init_5 : decode cX3_init 5 = .ok (.bipush 12, 2) := by decide +kernel
theorem dX3_init_7 : decode cX3_init 7 = .ok (.newarray .int, 2) := by decide +kernel
theorem dX3_init_9 : decode cX3_init 9 = .ok (.putfield 9, 3) := by decide +kernel
theorem dX3_init_12 : decode cX3_init 12 = .ok (.aload_n 0, 1) := by decide +kernel
theorem dX3_init_13 : decode cX3_init 13 = .ok (.iconst 2, 1) := by decide +kernel
theorem dX3_init_14 : decode cX3_init 14 = .ok (.putfield 15, 3) := by decide +kernel
theorem dX3_init_17 : decode cX3_init 17 = .ok (.aload_n 0, 1) := by decide +kernel
theorem dX3_init_18 : decode cX3_init 18 = .ok (.iconst (-1), 1) := by decide +kernel
theorem dX3_init_19 : decode cX3_init 19 = .ok (.putfield 19, 3) := by decide +kernel
theorem dX3_init_22 : decode cX3_init 22 = .ok (.return_, 1) := by decide +kernel
theorem dX3_isLost_0 : decode cX3_isLost 0 = .ok (.aload_n 0, 1) := by decide +kernel
theorem dX3_isLost_1 : decode cX3_isLost 1 = .ok (.getfield 19, 3) := by decide +kernel
theorem dX3_isLost_4 : decode cX3_isLost 4 = .ok (.iconst (-1), 1) := by decide +kernel
theorem dX3_isLost_5 : decode cX3_isLost 5 = .ok (.if_icmp .ne 7, 3) := by decide +kernel
theorem dX3_isLost_8 : decode cX3_isLost 8 = .ok (.iconst 1, 1) := by decide +kernel
theorem dX3_isLost_9 : decode cX3_isLost 9 = .ok (.goto 4, 3) := by decide +kernel
theorem dX3_isLost_12 : decode cX3_isLost 12 = .ok (.iconst 0, 1) := by decide +kernel
theorem dX3_isLost_13 : decode cX3_isLost 13 = .ok (.ireturn, 1) := by decide +kernel
theorem dX3_isForm_0 : decode cX3_isForm 0 = .ok (.aload_n 0, 1) := by decide +kernel
theorem dX3_isForm_1 : decode cX3_isForm 1 = .ok (.getfield 19, 3) := by decide +kernel
theorem dX3_isForm_4 : decode cX3_isForm 4 = .ok (.iconst 1, 1) := by decide +kernel
theorem dX3_isForm_5 : decode cX3_isForm 5 = .ok (.if_icmp .lt 16, 3) := by decide +kernel
theorem dX3_isForm_8 : decode cX3_isForm 8 = .ok (.aload_n 0, 1) := by decide +kernel
theorem dX3_isForm_9 : decode cX3_isForm 9 = .ok (.getfield 19, 3) := by decide +kernel
theorem dX3_isForm_12 : decode cX3_isForm 12 = .ok (.bipush 9, 2) := by decide +kernel
theorem dX3_isForm_14 : decode cX3_isForm 14 = .ok (.if_icmp .gt 7, 3) := by decide +kernel
theorem dX3_isForm_17 : decode cX3_isForm 17 = .ok (.iconst 1, 1) := by decide +kernel
theorem dX3_isForm_18 : decode cX3_isForm 18 = .ok (.goto 4, 3) := by decide +kernel
theorem dX3_isForm_21 : decode cX3_isForm 21 = .ok (.iconst 0, 1) := by decide +kernel
theorem dX3_isForm_22 : decode cX3_isForm 22 = .ok (.ireturn, 1) := by decide +kernel
theorem dX3_isNought_0 : decode cX3_isNought 0 = .ok (.iconst 0, 1) := by decide +kernel
theorem dX3_isNought_1 : decode cX3_isNought 1 = .ok (.istore_n 1, 1) := by decide +kernel
theorem dX3_isNought_2 : decode cX3_isNought 2 = .ok (.iload_n 1, 1) := by decide +kernel
theorem dX3_isNought_3 : decode cX3_isNought 3 = .ok (.aload_n 0, 1) := by decide +kernel
theorem dX3_isNought_4 : decode cX3_isNought 4 = .ok (.getfield 19, 3) := by decide +kernel
theorem dX3_isNought_7 : decode cX3_isNought 7 = .ok (.if_icmp .ge 19, 3) := by decide +kernel
theorem dX3_isNought_10 : decode cX3_isNought 10 = .ok (.aload_n 0, 1) := by decide +kernel
theorem dX3_isNought_11 : decode cX3_isNought 11 = .ok (.iload_n 1, 1) := by decide +kernel
theorem dX3_isNought_12 : decode cX3_isNought 12 = .ok (.invokevirtual 22, 3) := by decide +kernel
theorem dX3_isNought_15 : decode cX3_isNought 15 = .ok (.ifCond .eq 5, 3) := by decide +kernel
theorem dX3_isNought_18 : decode cX3_isNought 18 = .ok (.iconst 0, 1) := by decide +kernel
theorem dX3_isNought_19 : decode cX3_isNought 19 = .ok (.ireturn, 1) := by decide +kernel
theorem dX3_isNought_20 : decode cX3_isNought 20 = .ok (.iinc 1 1, 3) := by decide +kernel
theorem dX3_isNought_23 : decode cX3_isNought 23 = .ok (.goto (-21), 3) := by decide +kernel
theorem dX3_isNought_26 : decode cX3_isNought 26 = .ok (.iconst 1, 1) := by decide +kernel
theorem dX3_isNought_27 : decode cX3_isNought 27 = .ok (.ireturn, 1) := by decide +kernel
theorem dX3_top_0 : decode cX3_top 0 = .ok (.aload_n 0, 1) := by decide +kernel
theorem dX3_top_1 : decode cX3_top 1 = .ok (.getfield 19, 3) := by decide +kernel
theorem dX3_top_4 : decode cX3_top 4 = .ok (.iconst 1, 1) := by decide +kernel
theorem dX3_top_5 : decode cX3_top 5 = .ok (.isub, 1) := by decide +kernel
theorem dX3_top_6 : decode cX3_top 6 = .ok (.ireturn, 1) := by decide +kernel
theorem dX3_number_0 : decode cX3_number 0 = .ok (.aload_n 0, 1) := by decide +kernel
theorem dX3_number_1 : decode cX3_number 1 = .ok (.iload_n 1, 1) := by decide +kernel
theorem dX3_number_2 : decode cX3_number 2 = .ok (.iconst 1, 1) := by decide +kernel
theorem dX3_number_3 : decode cX3_number 3 = .ok (.invokevirtual 26, 3) := by decide +kernel
theorem dX3_number_6 : decode cX3_number 6 = .ok (.ifCond .eq 15, 3) := by decide +kernel
theorem dX3_number_9 : decode cX3_number 9 = .ok (.aload_n 0, 1) := by decide +kernel
theorem dX3_number_10 : decode cX3_number 10 = .ok (.getfield 9, 3) := by decide +kernel
theorem dX3_number_13 : decode cX3_number 13 = .ok (.iload_n 1, 1) := by decide +kernel
theorem dX3_number_14 : decode cX3_number 14 = .ok (.iaload, 1) := by decide +kernel
theorem dX3_number_15 : decode cX3_number 15 = .ok (.invokestatic 30, 3) := by decide +kernel
theorem dX3_number_18 : decode cX3_number 18 = .ok (.goto 4, 3) := by decide +kernel
theorem dX3_number_21 : decode cX3_number 21 = .ok (.iconst 0, 1) := by decide +kernel
theorem dX3_number_22 : decode cX3_number 22 = .ok (.ireturn, 1) := by decide +kernel
theorem dX3_holds_0 : decode cX3_holds 0 = .ok (.iload_n 1, 1) := by decide +kernel
theorem dX3_holds_1 : decode cX3_holds 1 = .ok (.ifCond .lt 21, 3) := by decide +kernel
theorem dX3_holds_4 : decode cX3_holds 4 = .ok (.iload_n 2, 1) := by decide +kernel
theorem dX3_holds_5 : decode cX3_holds 5 = .ok (.ifCond .lt 17, 3) := by decide +kernel
theorem dX3_holds_8 : decode cX3_holds 8 = .ok (.iload_n 2, 1) := by decide +kernel
theorem dX3_holds_9 : decode cX3_holds 9 = .ok (.aload_n 0, 1) := by decide +kernel
theorem dX3_holds_10 : decode cX3_holds 10 = .ok (.getfield 19, 3) := by decide +kernel
theorem dX3_holds_13 : decode cX3_holds 13 = .ok (.iload_n 1, 1) := by decide +kernel
theorem dX3_holds_14 : decode cX3_holds 14 = .ok (.isub, 1) := by decide +kernel
theorem dX3_holds_15 : decode cX3_holds 15 = .ok (.if_icmp .gt 7, 3) := by decide +kernel
theorem dX3_holds_18 : decode cX3_holds 18 = .ok (.iconst 1, 1) := by decide +kernel
theorem dX3_holds_19 : decode cX3_holds 19 = .ok (.goto 4, 3) := by decide +kernel
theorem dX3_holds_22 : decode cX3_holds 22 = .ok (.iconst 0, 1) := by decide +kernel
theorem dX3_holds_23 : decode cX3_holds 23 = .ok (.ireturn, 1) := by decide +kernel
theorem dX3_startsUnlike_0 : decode cX3_startsUnlike 0 = .ok (.iconst 0, 1) := by decide +kernel
theorem dX3_startsUnlike_1 : decode cX3_startsUnlike 1 = .ok (.istore_n 2, 1) := by decide +kernel
theorem dX3_startsUnlike_2 : decode cX3_startsUnlike 2 = .ok (.iload_n 2, 1) := by decide +kernel
theorem dX3_startsUnlike_3 : decode cX3_startsUnlike 3 = .ok (.iload_n 1, 1) := by decide +kernel
theorem dX3_startsUnlike_4 : decode cX3_startsUnlike 4 = .ok (.if_icmp .ge 37, 3) := by decide +kernel
theorem dX3_startsUnlike_7 : decode cX3_startsUnlike 7 = .ok (.iconst 0, 1) := by decide +kernel
theorem dX3_startsUnlike_8 : decode cX3_startsUnlike 8 = .ok (.istore_n 3, 1) := by decide +kernel
theorem dX3_startsUnlike_9 : decode cX3_startsUnlike 9 = .ok (.iload_n 3, 1) := by decide +kernel
theorem dX3_startsUnlike_10 : decode cX3_startsUnlike 10 = .ok (.iload_n 2, 1) := by decide +kernel
theorem dX3_startsUnlike_11 : decode cX3_startsUnlike 11 = .ok (.if_icmp .ge 24, 3) := by decide +kernel
theorem dX3_startsUnlike_14 : decode cX3_startsUnlike 14 = .ok (.aload_n 0, 1) := by decide +kernel
theorem dX3_startsUnlike_15 : decode cX3_startsUnlike 15 = .ok (.iload_n 2, 1) := by decide +kernel
theorem dX3_startsUnlike_16 : decode cX3_startsUnlike 16 = .ok (.invokevirtual 22, 3) := by decide +kernel
theorem dX3_startsUnlike_19 : decode cX3_startsUnlike 19 = .ok (.aload_n 0, 1) := by decide +kernel
theorem dX3_startsUnlike_20 : decode cX3_startsUnlike 20 = .ok (.iload_n 3, 1) := by decide +kernel
theorem dX3_startsUnlike_21 : decode cX3_startsUnlike 21 = .ok (.invokevirtual 22, 3) := by decide +kernel
theorem dX3_startsUnlike_24 : decode cX3_startsUnlike 24 = .ok (.if_icmp .ne 5, 3) := by decide +kernel
theorem dX3_startsUnlike_27 : decode cX3_startsUnlike 27 = .ok (.iconst 0, 1) := by decide +kernel
theorem dX3_startsUnlike_28 : decode cX3_startsUnlike 28 = .ok (.ireturn, 1) := by decide +kernel
theorem dX3_startsUnlike_29 : decode cX3_startsUnlike 29 = .ok (.iinc 3 1, 3) := by decide +kernel
theorem dX3_startsUnlike_32 : decode cX3_startsUnlike 32 = .ok (.goto (-23), 3) := by decide +kernel
theorem dX3_startsUnlike_35 : decode cX3_startsUnlike 35 = .ok (.iinc 2 1, 3) := by decide +kernel
theorem dX3_startsUnlike_38 : decode cX3_startsUnlike 38 = .ok (.goto (-36), 3) := by decide +kernel
theorem dX3_startsUnlike_41 : decode cX3_startsUnlike 41 = .ok (.iconst 1, 1) := by decide +kernel
theorem dX3_startsUnlike_42 : decode cX3_startsUnlike 42 = .ok (.ireturn, 1) := by decide +kernel
theorem dX3_forget_0 : decode cX3_forget 0 = .ok (.aload_n 0, 1) := by decide +kernel
theorem dX3_forget_1 : decode cX3_forget 1 = .ok (.iconst (-1), 1) := by decide +kernel
theorem dX3_forget_2 : decode cX3_forget 2 = .ok (.putfield 19, 3) := by decide +kernel
theorem dX3_forget_5 : decode cX3_forget 5 = .ok (.return_, 1) := by decide +kernel
theorem dX3_renew_0 : decode cX3_renew 0 = .ok (.aload_n 0, 1) := by decide +kernel
theorem dX3_renew_1 : decode cX3_renew 1 = .ok (.iload_n 1, 1) := by decide +kernel
theorem dX3_renew_2 : decode cX3_renew 2 = .ok (.putfield 15, 3) := by decide +kernel
theorem dX3_renew_5 : decode cX3_renew 5 = .ok (.aload_n 0, 1) := by decide +kernel
theorem dX3_renew_6 : decode cX3_renew 6 = .ok (.iload_n 2, 1) := by decide +kernel
theorem dX3_renew_7 : decode cX3_renew 7 = .ok (.putfield 19, 3) := by decide +kernel
theorem dX3_renew_10 : decode cX3_renew 10 = .ok (.iconst 0, 1) := by decide +kernel
theorem dX3_renew_11 : decode cX3_renew 11 = .ok (.istore_n 3, 1) := by decide +kernel
theorem dX3_renew_12 : decode cX3_renew 12 = .ok (.iload_n 3, 1) := by decide +kernel
theorem dX3_renew_13 : decode cX3_renew 13 = .ok (.bipush 12, 2) := by decide +kernel
theorem dX3_renew_15 : decode cX3_renew 15 = .ok (.if_icmp .ge 16, 3) := by decide +kernel
theorem dX3_renew_18 : decode cX3_renew 18 = .ok (.aload_n 0, 1) := by decide +kernel
theorem dX3_renew_19 : decode cX3_renew 19 = .ok (.getfield 9, 3) := by decide +kernel
theorem dX3_renew_22 : decode cX3_renew 22 = .ok (.iload_n 3, 1) := by decide +kernel
theorem dX3_renew_23 : decode cX3_renew 23 = .ok (.iconst 0, 1) := by decide +kernel
theorem dX3_renew_24 : decode cX3_renew 24 = .ok (.iastore, 1) := by decide +kernel
theorem dX3_renew_25 : decode cX3_renew 25 = .ok (.iinc 3 1, 3) := by decide +kernel
theorem dX3_renew_28 : decode cX3_renew 28 = .ok (.goto (-16), 3) := by decide +kernel
theorem dX3_renew_31 : decode cX3_renew 31 = .ok (.return_, 1) := by decide +kernel
theorem dX3_store_0 : decode cX3_store 0 = .ok (.aload_n 0, 1) := by decide +kernel
theorem dX3_store_1 : decode cX3_store 1 = .ok (.iload_n 1, 1) := by decide +kernel
theorem dX3_store_2 : decode cX3_store 2 = .ok (.iconst 1, 1) := by decide +kernel
theorem dX3_store_3 : decode cX3_store 3 = .ok (.invokevirtual 26, 3) := by decide +kernel
theorem dX3_store_6 : decode cX3_store 6 = .ok (.ifCond .ne 4, 3) := by decide +kernel
theorem dX3_store_9 : decode cX3_store 9 = .ok (.return_, 1) := by decide +kernel
theorem dX3_store_10 : decode cX3_store 10 = .ok (.aload_n 0, 1) := by decide +kernel
theorem dX3_store_11 : decode cX3_store 11 = .ok (.getfield 15, 3) := by decide +kernel
theorem dX3_store_14 : decode cX3_store 14 = .ok (.lookupswitch 48 #[(0, 26), (1, 37)], 26) := by decide +kernel
theorem dX3_store_40 : decode cX3_store 40 = .ok (.aload_n 0, 1) := by decide +kernel
theorem dX3_store_41 : decode cX3_store 41 = .ok (.getfield 9, 3) := by decide +kernel
theorem dX3_store_44 : decode cX3_store 44 = .ok (.iload_n 1, 1) := by decide +kernel
theorem dX3_store_45 : decode cX3_store 45 = .ok (.iload_n 2, 1) := by decide +kernel
theorem dX3_store_46 : decode cX3_store 46 = .ok (.i2b, 1) := by decide +kernel
theorem dX3_store_47 : decode cX3_store 47 = .ok (.iastore, 1) := by decide +kernel
theorem dX3_store_48 : decode cX3_store 48 = .ok (.goto 21, 3) := by decide +kernel
theorem dX3_store_51 : decode cX3_store 51 = .ok (.aload_n 0, 1) := by decide +kernel
theorem dX3_store_52 : decode cX3_store 52 = .ok (.getfield 9, 3) := by decide +kernel
theorem dX3_store_55 : decode cX3_store 55 = .ok (.iload_n 1, 1) := by decide +kernel
theorem dX3_store_56 : decode cX3_store 56 = .ok (.iload_n 2, 1) := by decide +kernel
theorem dX3_store_57 : decode cX3_store 57 = .ok (.i2s, 1) := by decide +kernel
theorem dX3_store_58 : decode cX3_store 58 = .ok (.iastore, 1) := by decide +kernel
theorem dX3_store_59 : decode cX3_store 59 = .ok (.goto 10, 3) := by decide +kernel
theorem dX3_store_62 : decode cX3_store 62 = .ok (.aload_n 0, 1) := by decide +kernel
theorem dX3_store_63 : decode cX3_store 63 = .ok (.getfield 9, 3) := by decide +kernel
theorem dX3_store_66 : decode cX3_store 66 = .ok (.iload_n 1, 1) := by decide +kernel
theorem dX3_store_67 : decode cX3_store 67 = .ok (.iload_n 2, 1) := by decide +kernel
theorem dX3_store_68 : decode cX3_store 68 = .ok (.iastore, 1) := by decide +kernel
theorem dX3_store_69 : decode cX3_store 69 = .ok (.return_, 1) := by decide +kernel
theorem dX3_become_0 : decode cX3_become 0 = .ok (.aload_n 0, 1) := by decide +kernel
theorem dX3_become_1 : decode cX3_become 1 = .ok (.iconst 2, 1) := by decide +kernel
theorem dX3_become_2 : decode cX3_become 2 = .ok (.iload_n 2, 1) := by decide +kernel
theorem dX3_become_3 : decode cX3_become 3 = .ok (.invokevirtual 35, 3) := by decide +kernel
theorem dX3_become_6 : decode cX3_become 6 = .ok (.iconst 0, 1) := by decide +kernel
theorem dX3_become_7 : decode cX3_become 7 = .ok (.istore_n 3, 1) := by decide +kernel
theorem dX3_become_8 : decode cX3_become 8 = .ok (.iload_n 3, 1) := by decide +kernel
theorem dX3_become_9 : decode cX3_become 9 = .ok (.iload_n 2, 1) := by decide +kernel
theorem dX3_become_10 : decode cX3_become 10 = .ok (.if_icmp .ge 23, 3) := by decide +kernel
theorem dX3_become_13 : decode cX3_become 13 = .ok (.iload_n 3, 1) := by decide +kernel
theorem dX3_become_14 : decode cX3_become 14 = .ok (.aload_n 1, 1) := by decide +kernel
theorem dX3_become_15 : decode cX3_become 15 = .ok (.arraylength, 1) := by decide +kernel
theorem dX3_become_16 : decode cX3_become 16 = .ok (.if_icmp .ge 17, 3) := by decide +kernel
theorem dX3_become_19 : decode cX3_become 19 = .ok (.aload_n 0, 1) := by decide +kernel
theorem dX3_become_20 : decode cX3_become 20 = .ok (.iload_n 3, 1) := by decide +kernel
theorem dX3_become_21 : decode cX3_become 21 = .ok (.aload_n 1, 1) := by decide +kernel
theorem dX3_become_22 : decode cX3_become 22 = .ok (.iload_n 3, 1) := by decide +kernel
theorem dX3_become_23 : decode cX3_become 23 = .ok (.iaload, 1) := by decide +kernel
theorem dX3_become_24 : decode cX3_become 24 = .ok (.invokevirtual 39, 3) := by decide +kernel
theorem dX3_become_27 : decode cX3_become 27 = .ok (.iinc 3 1, 3) := by decide +kernel
theorem dX3_become_30 : decode cX3_become 30 = .ok (.goto (-22), 3) := by decide +kernel
theorem dX3_become_33 : decode cX3_become 33 = .ok (.return_, 1) := by decide +kernel
theorem dX3_addTo_0 : decode cX3_addTo 0 = .ok (.ldc2_w 42, 3) := by decide +kernel
theorem dX3_addTo_3 : decode cX3_addTo 3 = .ok (.lload_n 1, 1) := by decide +kernel
theorem dX3_addTo_4 : decode cX3_addTo 4 = .ok (.lmul, 1) := by decide +kernel
theorem dX3_addTo_5 : decode cX3_addTo 5 = .ok (.aload_n 0, 1) := by decide +kernel
theorem dX3_addTo_6 : decode cX3_addTo 6 = .ok (.invokevirtual 44, 3) := by decide +kernel
theorem dX3_addTo_9 : decode cX3_addTo 9 = .ok (.i2l, 1) := by decide +kernel
theorem dX3_addTo_10 : decode cX3_addTo 10 = .ok (.ladd, 1) := by decide +kernel
theorem dX3_addTo_11 : decode cX3_addTo 11 = .ok (.lstore_n 3, 1) := by decide +kernel
theorem dX3_addTo_12 : decode cX3_addTo 12 = .ok (.iconst 0, 1) := by decide +kernel
theorem dX3_addTo_13 : decode cX3_addTo 13 = .ok (.istore 5, 2) := by decide +kernel
theorem dX3_addTo_15 : decode cX3_addTo 15 = .ok (.iload 5, 2) := by decide +kernel
theorem dX3_addTo_17 : decode cX3_addTo 17 = .ok (.aload_n 0, 1) := by decide +kernel
theorem dX3_addTo_18 : decode cX3_addTo 18 = .ok (.getfield 19, 3) := by decide +kernel
theorem dX3_addTo_21 : decode cX3_addTo 21 = .ok (.if_icmp .ge 23, 3) := by decide +kernel
theorem dX3_addTo_24 : decode cX3_addTo 24 = .ok (.ldc2_w 42, 3) := by decide +kernel
theorem dX3_addTo_27 : decode cX3_addTo 27 = .ok (.lload_n 3, 1) := by decide +kernel
theorem dX3_addTo_28 : decode cX3_addTo 28 = .ok (.lmul, 1) := by decide +kernel
theorem dX3_addTo_29 : decode cX3_addTo 29 = .ok (.aload_n 0, 1) := by decide +kernel
theorem dX3_addTo_30 : decode cX3_addTo 30 = .ok (.iload 5, 2) := by decide +kernel
theorem dX3_addTo_32 : decode cX3_addTo 32 = .ok (.invokevirtual 22, 3) := by decide +kernel
theorem dX3_addTo_35 : decode cX3_addTo 35 = .ok (.i2l, 1) := by decide +kernel
theorem dX3_addTo_36 : decode cX3_addTo 36 = .ok (.ladd, 1) := by decide +kernel
theorem dX3_addTo_37 : decode cX3_addTo 37 = .ok (.lstore_n 3, 1) := by decide +kernel
theorem dX3_addTo_38 : decode cX3_addTo 38 = .ok (.iinc 5 1, 3) := by decide +kernel
theorem dX3_addTo_41 : decode cX3_addTo 41 = .ok (.goto (-26), 3) := by decide +kernel
theorem dX3_addTo_44 : decode cX3_addTo 44 = .ok (.lload_n 3, 1) := by decide +kernel
theorem dX3_addTo_45 : decode cX3_addTo 45 = .ok (.lreturn, 1) := by decide +kernel
