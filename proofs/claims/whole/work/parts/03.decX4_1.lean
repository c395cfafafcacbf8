theorem dX4_refuseLeads_7 : decode cX4_refuseLeads 7 = .ok (.if_icmp .le 6, 3) := by decide +kernel
theorem dX4_refuseLeads_10 : decode cX4_refuseLeads 10 = .ok (.bipush (-2), 2) := by decide +kernel
theorem dX4_refuseLeads_12 : decode cX4_refuseLeads 12 = .ok (.ireturn, 1) := by decide +kernel
theorem dX4_refuseLeads_13 : decode cX4_refuseLeads 13 = .ok (.aload_n 0, 1) := by decide +kernel
theorem dX4_refuseLeads_14 : decode cX4_refuseLeads 14 = .ok (.iload_n 1, 1) := by decide +kernel
theorem dX4_refuseLeads_15 : decode cX4_refuseLeads 15 = .ok (.iload_n 2, 1) := by decide +kernel
theorem dX4_refuseLeads_16 : decode cX4_refuseLeads 16 = .ok (.invokevirtual 95, 3) := by decide +kernel
theorem dX4_refuseLeads_19 : decode cX4_refuseLeads 19 = .ok (.istore 4, 2) := by decide +kernel
theorem dX4_refuseLeads_21 : decode cX4_refuseLeads 21 = .ok (.iload 4, 2) := by decide +kernel
theorem dX4_refuseLeads_23 : decode cX4_refuseLeads 23 = .ok (.ifCond .eq 6, 3) := by decide +kernel
theorem dX4_refuseLeads_26 : decode cX4_refuseLeads 26 = .ok (.iload 4, 2) := by decide +kernel
theorem dX4_refuseLeads_28 : decode cX4_refuseLeads 28 = .ok (.ireturn, 1) := by decide +kernel
theorem dX4_refuseLeads_29 : decode cX4_refuseLeads 29 = .ok (.aload_n 0, 1) := by decide +kernel
theorem dX4_refuseLeads_30 : decode cX4_refuseLeads 30 = .ok (.getfield 11, 3) := by decide +kernel
theorem dX4_refuseLeads_33 : decode cX4_refuseLeads 33 = .ok (.iload_n 1, 1) := by decide +kernel
theorem dX4_refuseLeads_34 : decode cX4_refuseLeads 34 = .ok (.aaload, 1) := by decide +kernel
theorem dX4_refuseLeads_35 : decode cX4_refuseLeads 35 = .ok (.getfield 65, 3) := by decide +kernel
theorem dX4_refuseLeads_38 : decode cX4_refuseLeads 38 = .ok (.aload_n 0, 1) := by decide +kernel
theorem dX4_refuseLeads_39 : decode cX4_refuseLeads 39 = .ok (.getfield 11, 3) := by decide +kernel
theorem dX4_refuseLeads_42 : decode cX4_refuseLeads 42 = .ok (.iload_n 2, 1) := by decide +kernel
theorem dX4_refuseLeads_43 : decode cX4_refuseLeads 43 = .ok (.aaload, 1) := by decide +kernel
theorem dX4_refuseLeads_44 : decode cX4_refuseLeads 44 = .ok (.getfield 65, 3) := by decide +kernel
theorem dX4_refuseLeads_47 : decode cX4_refuseLeads 47 = .ok (.if_icmp .ne 7, 3) := by decide +kernel
theorem dX4_refuseLeads_50 : decode cX4_refuseLeads 50 = .ok (.iconst 0, 1) := by decide +kernel
theorem dX4_refuseLeads_51 : decode cX4_refuseLeads 51 = .ok (.goto 5, 3) := by decide +kernel
theorem dX4_refuseLeads_54 : decode cX4_refuseLeads 54 = .ok (.bipush (-3), 2) := by decide +kernel
theorem dX4_refuseLeads_56 : decode cX4_refuseLeads 56 = .ok (.ireturn, 1) := by decide +kernel
theorem dX4_load_0 : decode cX4_load 0 = .ok (.iconst 0, 1) := by decide +kernel
theorem dX4_load_1 : decode cX4_load 1 = .ok (.istore_n 3, 1) := by decide +kernel
theorem dX4_load_2 : decode cX4_load 2 = .ok (.iload_n 3, 1) := by decide +kernel
theorem dX4_load_3 : decode cX4_load 3 = .ok (.bipush 9, 2) := by decide +kernel
theorem dX4_load_5 : decode cX4_load 5 = .ok (.if_icmp .ge 22, 3) := by decide +kernel
theorem dX4_load_8 : decode cX4_load 8 = .ok (.aload_n 2, 1) := by decide +kernel
theorem dX4_load_9 : decode cX4_load 9 = .ok (.iload_n 3, 1) := by decide +kernel
theorem dX4_load_10 : decode cX4_load 10 = .ok (.aload_n 0, 1) := by decide +kernel
theorem dX4_load_11 : decode cX4_load 11 = .ok (.getfield 11, 3) := by decide +kernel
theorem dX4_load_14 : decode cX4_load 14 = .ok (.iload_n 1, 1) := by decide +kernel
theorem dX4_load_15 : decode cX4_load 15 = .ok (.aaload, 1) := by decide +kernel
theorem dX4_load_16 : decode cX4_load 16 = .ok (.iload_n 3, 1) := by decide +kernel
theorem dX4_load_17 : decode cX4_load 17 = .ok (.invokevirtual 98, 3) := by decide +kernel
theorem dX4_load_20 : decode cX4_load 20 = .ok (.iastore, 1) := by decide +kernel
theorem dX4_load_21 : decode cX4_load 21 = .ok (.iinc 3 1, 3) := by decide +kernel
theorem dX4_load_24 : decode cX4_load 24 = .ok (.goto (-22), 3) := by decide +kernel
theorem dX4_load_27 : decode cX4_load 27 = .ok (.aload_n 0, 1) := by decide +kernel
theorem dX4_load_28 : decode cX4_load 28 = .ok (.getfield 11, 3) := by decide +kernel
theorem dX4_load_31 : decode cX4_load 31 = .ok (.iload_n 1, 1) := by decide +kernel
theorem dX4_load_32 : decode cX4_load 32 = .ok (.aaload, 1) := by decide +kernel
theorem dX4_load_33 : decode cX4_load 33 = .ok (.invokevirtual 101, 3) := by decide +kernel
theorem dX4_load_36 : decode cX4_load 36 = .ok (.ireturn, 1) := by decide +kernel
theorem dX4_keepForm_0 : decode cX4_keepForm 0 = .ok (.aload_n 0, 1) := by decide +kernel
theorem dX4_keepForm_1 : decode cX4_keepForm 1 = .ok (.getfield 11, 3) := by decide +kernel
theorem dX4_keepForm_4 : decode cX4_keepForm 4 = .ok (.iload_n 1, 1) := by decide +kernel
theorem dX4_keepForm_5 : decode cX4_keepForm 5 = .ok (.aaload, 1) := by decide +kernel
theorem dX4_keepForm_6 : decode cX4_keepForm 6 = .ok (.aload_n 0, 1) := by decide +kernel
theorem dX4_keepForm_7 : decode cX4_keepForm 7 = .ok (.getfield 32, 3) := by decide +kernel
theorem dX4_keepForm_10 : decode cX4_keepForm 10 = .ok (.iload_n 2, 1) := by decide +kernel
theorem dX4_keepForm_11 : decode cX4_keepForm 11 = .ok (.iconst 1, 1) := by decide +kernel
theorem dX4_keepForm_12 : decode cX4_keepForm 12 = .ok (.iadd, 1) := by decide +kernel
theorem dX4_keepForm_13 : decode cX4_keepForm 13 = .ok (.invokevirtual 176, 3) := by decide +kernel
theorem dX4_keepForm_16 : decode cX4_keepForm 16 = .ok (.iload_n 2, 1) := by decide +kernel
theorem dX4_keepForm_17 : decode cX4_keepForm 17 = .ok (.ireturn, 1) := by decide +kernel
theorem dX4_countSheets_0 : decode cX4_countSheets 0 = .ok (.iconst 0, 1) := by decide +kernel
theorem dX4_countSheets_1 : decode cX4_countSheets 1 = .ok (.istore_n 2, 1) := by decide +kernel
theorem dX4_countSheets_2 : decode cX4_countSheets 2 = .ok (.iconst 0, 1) := by decide +kernel
theorem dX4_countSheets_3 : decode cX4_countSheets 3 = .ok (.istore_n 3, 1) := by decide +kernel
theorem dX4_countSheets_4 : decode cX4_countSheets 4 = .ok (.iload_n 3, 1) := by decide +kernel
theorem dX4_countSheets_5 : decode cX4_countSheets 5 = .ok (.bipush 10, 2) := by decide +kernel
theorem dX4_countSheets_7 : decode cX4_countSheets 7 = .ok (.if_icmp .ge 43, 3) := by decide +kernel
theorem dX4_countSheets_10 : decode cX4_countSheets 10 = .ok (.iload_n 1, 1) := by decide +kernel
theorem dX4_countSheets_11 : decode cX4_countSheets 11 = .ok (.ifCond .eq 18, 3) := by decide +kernel
theorem dX4_countSheets_14 : decode cX4_countSheets 14 = .ok (.aload_n 0, 1) := by decide +kernel
theorem dX4_countSheets_15 : decode cX4_countSheets 15 = .ok (.getfield 11, 3) := by decide +kernel
theorem dX4_countSheets_18 : decode cX4_countSheets 18 = .ok (.iload_n 3, 1) := by decide +kernel
theorem dX4_countSheets_19 : decode cX4_countSheets 19 = .ok (.aaload, 1) := by decide +kernel
theorem dX4_countSheets_20 : decode cX4_countSheets 20 = .ok (.invokevirtual 165, 3) := by decide +kernel
theorem dX4_countSheets_23 : decode cX4_countSheets 23 = .ok (.ifCond .eq 21, 3) := by decide +kernel
theorem dX4_countSheets_26 : decode cX4_countSheets 26 = .ok (.goto 15, 3) := by decide +kernel
theorem dX4_countSheets_29 : decode cX4_countSheets 29 = .ok (.aload_n 0, 1) := by decide +kernel
theorem dX4_countSheets_30 : decode cX4_countSheets 30 = .ok (.getfield 11, 3) := by decide +kernel
theorem dX4_countSheets_33 : decode cX4_countSheets 33 = .ok (.iload_n 3, 1) := by decide +kernel
theorem dX4_countSheets_34 : decode cX4_countSheets 34 = .ok (.aaload, 1) := by decide +kernel
theorem dX4_countSheets_35 : decode cX4_countSheets 35 = .ok (.invokevirtual 226, 3) := by decide +kernel
theorem dX4_countSheets_38 : decode cX4_countSheets 38 = .ok (.ifCond .ne 6, 3) := by decide +kernel
theorem dX4_countSheets_41 : decode cX4_countSheets 41 = .ok (.iinc 2 1, 3) := by decide +kernel
theorem dX4_countSheets_44 : decode cX4_countSheets 44 = .ok (.iinc 3 1, 3) := by decide +kernel
theorem dX4_countSheets_47 : decode cX4_countSheets 47 = .ok (.goto (-43), 3) := by decide +kernel
theorem dX4_countSheets_50 : decode cX4_countSheets 50 = .ok (.iload_n 2, 1) := by decide +kernel
theorem dX4_countSheets_51 : decode cX4_countSheets 51 = .ok (.ireturn, 1) := by decide +kernel
theorem dX4_canJoin_0 : decode cX4_canJoin 0 = .ok (.iload_n 2, 1) := by decide +kernel
theorem dX4_canJoin_1 : decode cX4_canJoin 1 = .ok (.tableswitch 52 0 2 #[27, 27, 38], 27) := by decide +kernel
theorem dX4_canJoin_28 : decode cX4_canJoin 28 = .ok (.iload_n 0, 1) := by decide +kernel
theorem dX4_canJoin_29 : decode cX4_canJoin 29 = .ok (.iload_n 1, 1) := by decide +kernel
theorem dX4_canJoin_30 : decode cX4_canJoin 30 = .ok (.if_icmp .ne 7, 3) := by decide +kernel
theorem dX4_canJoin_33 : decode cX4_canJoin 33 = .ok (.iconst 1, 1) := by decide +kernel
theorem dX4_canJoin_34 : decode cX4_canJoin 34 = .ok (.goto 4, 3) := by decide +kernel
theorem dX4_canJoin_37 : decode cX4_canJoin 37 = .ok (.iconst 0, 1) := by decide +kernel
theorem dX4_canJoin_38 : decode cX4_canJoin 38 = .ok (.ireturn, 1) := by decide +kernel
theorem dX4_canJoin_39 : decode cX4_canJoin 39 = .ok (.iload_n 0, 1) := by decide +kernel
theorem dX4_canJoin_40 : decode cX4_canJoin 40 = .ok (.iload_n 1, 1) := by decide +kernel
theorem dX4_canJoin_41 : decode cX4_canJoin 41 = .ok (.iadd, 1) := by decide +kernel
theorem dX4_canJoin_42 : decode cX4_canJoin 42 = .ok (.bipush 8, 2) := by decide +kernel
theorem dX4_canJoin_44 : decode cX4_canJoin 44 = .ok (.if_icmp .gt 7, 3) := by decide +kernel
theorem dX4_canJoin_47 : decode cX4_canJoin 47 = .ok (.iconst 1, 1) := by decide +kernel
theorem dX4_canJoin_48 : decode cX4_canJoin 48 = .ok (.goto 4, 3) := by decide +kernel
theorem dX4_canJoin_51 : decode cX4_canJoin 51 = .ok (.iconst 0, 1) := by decide +kernel
theorem dX4_canJoin_52 : decode cX4_canJoin 52 = .ok (.ireturn, 1) := by decide +kernel
theorem dX4_canJoin_53 : decode cX4_canJoin 53 = .ok (.iconst 1, 1) := by decide +kernel
theorem dX4_canJoin_54 : decode cX4_canJoin 54 = .ok (.ireturn, 1) := by decide +kernel
theorem dX4_makeJoined_0 : decode cX4_makeJoined 0 = .ok (.aload_n 0, 1) := by decide +kernel
theorem dX4_makeJoined_1 : decode cX4_makeJoined 1 = .ok (.getfield 32, 3) := by decide +kernel
theorem dX4_makeJoined_4 : decode cX4_makeJoined 4 = .ok (.invokestatic 180, 3) := by decide +kernel
theorem dX4_makeJoined_7 : decode cX4_makeJoined 7 = .ok (.iload_n 3, 1) := by decide +kernel
theorem dX4_makeJoined_8 : decode cX4_makeJoined 8 = .ok (.tableswitch 105 0 2 #[28, 55, 84], 28) := by decide +kernel
theorem dX4_makeJoined_36 : decode cX4_makeJoined 36 = .ok (.aload_n 0, 1) := by decide +kernel
theorem dX4_makeJoined_37 : decode cX4_makeJoined 37 = .ok (.getfield 32, 3) := by decide +kernel
theorem dX4_makeJoined_40 : decode cX4_makeJoined 40 = .ok (.aload_n 0, 1) := by decide +kernel
theorem dX4_makeJoined_41 : decode cX4_makeJoined 41 = .ok (.getfield 19, 3) := by decide +kernel
theorem dX4_makeJoined_44 : decode cX4_makeJoined 44 = .ok (.iconst 1, 1) := by decide +kernel
theorem dX4_makeJoined_45 : decode cX4_makeJoined 45 = .ok (.invokestatic 232, 3) := by decide +kernel
theorem dX4_makeJoined_48 : decode cX4_makeJoined 48 = .ok (.aload_n 0, 1) := by decide +kernel
theorem dX4_makeJoined_49 : decode cX4_makeJoined 49 = .ok (.getfield 32, 3) := by decide +kernel
theorem dX4_makeJoined_52 : decode cX4_makeJoined 52 = .ok (.aload_n 0, 1) := by decide +kernel
theorem dX4_makeJoined_53 : decode cX4_makeJoined 53 = .ok (.getfield 23, 3) := by decide +kernel
theorem dX4_makeJoined_56 : decode cX4_makeJoined 56 = .ok (.iconst 1, 1) := by decide +kernel
theorem dX4_makeJoined_57 : decode cX4_makeJoined 57 = .ok (.invokestatic 232, 3) := by decide +kernel
theorem dX4_makeJoined_60 : decode cX4_makeJoined 60 = .ok (.goto 70, 3) := by decide +kernel
theorem dX4_makeJoined_63 : decode cX4_makeJoined 63 = .ok (.aload_n 0, 1) := by decide +kernel
theorem dX4_makeJoined_64 : decode cX4_makeJoined 64 = .ok (.getfield 32, 3) := by decide +kernel
theorem dX4_makeJoined_67 : decode cX4_makeJoined 67 = .ok (.aload_n 0, 1) := by decide +kernel
theorem dX4_makeJoined_68 : decode cX4_makeJoined 68 = .ok (.getfield 19, 3) := by decide +kernel
theorem dX4_makeJoined_71 : decode cX4_makeJoined 71 = .ok (.iconst 1, 1) := by decide +kernel
theorem dX4_makeJoined_72 : decode cX4_makeJoined 72 = .ok (.invokestatic 232, 3) := by decide +kernel
theorem dX4_makeJoined_75 : decode cX4_makeJoined 75 = .ok (.aload_n 0, 1) := by decide +kernel
theorem dX4_makeJoined_76 : decode cX4_makeJoined 76 = .ok (.getfield 32, 3) := by decide +kernel
theorem dX4_makeJoined_79 : decode cX4_makeJoined 79 = .ok (.aload_n 0, 1) := by decide +kernel
theorem dX4_makeJoined_80 : decode cX4_makeJoined 80 = .ok (.getfield 23, 3) := by decide +kernel
theorem dX4_makeJoined_83 : decode cX4_makeJoined 83 = .ok (.sipush 10006, 3) := by decide +kernel
theorem dX4_makeJoined_86 : decode cX4_makeJoined 86 = .ok (.invokestatic 232, 3) := by decide +kernel
theorem dX4_makeJoined_89 : decode cX4_makeJoined 89 = .ok (.goto 41, 3) := by decide +kernel
theorem dX4_makeJoined_92 : decode cX4_makeJoined 92 = .ok (.aload_n 0, 1) := by decide +kernel
theorem dX4_makeJoined_93 : decode cX4_makeJoined 93 = .ok (.getfield 32, 3) := by decide +kernel
theorem dX4_makeJoined_96 : decode cX4_makeJoined 96 = .ok (.aload_n 0, 1) := by decide +kernel
theorem dX4_makeJoined_97 : decode cX4_makeJoined 97 = .ok (.getfield 19, 3) := by decide +kernel
theorem dX4_makeJoined_100 : decode cX4_makeJoined 100 = .ok (.iload_n 1, 1) := by decide +kernel
theorem dX4_makeJoined_101 : decode cX4_makeJoined 101 = .ok (.aload_n 0, 1) := by decide +kernel
theorem dX4_makeJoined_102 : decode cX4_makeJoined 102 = .ok (.getfield 23, 3) := by decide +kernel
theorem dX4_makeJoined_105 : decode cX4_makeJoined 105 = .ok (.iload_n 2, 1) := by decide +kernel
theorem dX4_makeJoined_106 : decode cX4_makeJoined 106 = .ok (.iconst 1, 1) := by decide +kernel
theorem dX4_makeJoined_107 : decode cX4_makeJoined 107 = .ok (.invokestatic 236, 3) := by decide +kernel
theorem dX4_makeJoined_110 : decode cX4_makeJoined 110 = .ok (.goto 20, 3) := by decide +kernel
theorem dX4_makeJoined_113 : decode cX4_makeJoined 113 = .ok (.aload_n 0, 1) := by decide +kernel
theorem dX4_makeJoined_114 : decode cX4_makeJoined 114 = .ok (.getfield 32, 3) := by decide +kernel
theorem dX4_makeJoined_117 : decode cX4_makeJoined 117 = .ok (.aload_n 0, 1) := by decide +kernel
theorem dX4_makeJoined_118 : decode cX4_makeJoined 118 = .ok (.getfield 19, 3) := by decide +kernel
theorem dX4_makeJoined_121 : decode cX4_makeJoined 121 = .ok (.aload_n 0, 1) := by decide +kernel
theorem dX4_makeJoined_122 : decode cX4_makeJoined 122 = .ok (.getfield 23, 3) := by decide +kernel
theorem dX4_makeJoined_125 : decode cX4_makeJoined 125 = .ok (.iconst 0, 1) := by decide +kernel
theorem dX4_makeJoined_126 : decode cX4_makeJoined 126 = .ok (.iaload, 1) := by decide +kernel
theorem dX4_makeJoined_127 : decode cX4_makeJoined 127 = .ok (.invokestatic 232, 3) := by decide +kernel
theorem dX4_makeJoined_130 : decode cX4_makeJoined 130 = .ok (.return_, 1) := by decide +kernel
theorem dX4_makeMixed_0 : decode cX4_makeMixed 0 = .ok (.aload_n 0, 1) := by decide +kernel
theorem dX4_makeMixed_1 : decode cX4_makeMixed 1 = .ok (.getfield 32, 3) := by decide +kernel
theorem dX4_makeMixed_4 : decode cX4_makeMixed 4 = .ok (.invokestatic 180, 3) := by decide +kernel
theorem dX4_makeMixed_7 : decode cX4_makeMixed 7 = .ok (.aload_n 0, 1) := by decide +kernel
theorem dX4_makeMixed_8 : decode cX4_makeMixed 8 = .ok (.getfield 23, 3) := by decide +kernel
theorem dX4_makeMixed_11 : decode cX4_makeMixed 11 = .ok (.invokestatic 180, 3) := by decide +kernel
theorem dX4_makeMixed_14 : decode cX4_makeMixed 14 = .ok (.aload_n 0, 1) := by decide +kernel
theorem dX4_makeMixed_15 : decode cX4_makeMixed 15 = .ok (.getfield 32, 3) := by decide +kernel
theorem dX4_makeMixed_18 : decode cX4_makeMixed 18 = .ok (.iconst 0, 1) := by decide +kernel
theorem dX4_makeMixed_19 : decode cX4_makeMixed 19 = .ok (.aload_n 0, 1) := by decide +kernel
theorem dX4_makeMixed_20 : decode cX4_makeMixed 20 = .ok (.getfield 19, 3) := by decide +kernel
theorem dX4_makeMixed_23 : decode cX4_makeMixed 23 = .ok (.iconst 0, 1) := by decide +kernel
theorem dX4_makeMixed_24 : decode cX4_makeMixed 24 = .ok (.iaload, 1) := by decide +kernel
theorem dX4_makeMixed_25 : decode cX4_makeMixed 25 = .ok (.iastore, 1) := by decide +kernel
theorem dX4_makeMixed_26 : decode cX4_makeMixed 26 = .ok (.aload_n 0, 1) := by decide +kernel
theorem dX4_makeMixed_27 : decode cX4_makeMixed 27 = .ok (.getfield 23, 3) := by decide +kernel
theorem dX4_makeMixed_30 : decode cX4_makeMixed 30 = .ok (.iconst 0, 1) := by decide +kernel
theorem dX4_makeMixed_31 : decode cX4_makeMixed 31 = .ok (.iconst 1, 1) := by decide +kernel
theorem dX4_makeMixed_32 : decode cX4_makeMixed 32 = .ok (.iastore, 1) := by decide +kernel
theorem dX4_makeMixed_33 : decode cX4_makeMixed 33 = .ok (.iconst 1, 1) := by decide +kernel
theorem dX4_makeMixed_34 : decode cX4_makeMixed 34 = .ok (.istore 6, 2) := by decide +kernel
theorem dX4_makeMixed_36 : decode cX4_makeMixed 36 = .ok (.iload 6, 2) := by decide +kernel
theorem dX4_makeMixed_38 : decode cX4_makeMixed 38 = .ok (.iload_n 1, 1) := by decide +kernel
theorem dX4_makeMixed_39 : decode cX4_makeMixed 39 = .ok (.if_icmp .gt 55, 3) := by decide +kernel
theorem dX4_makeMixed_42 : decode cX4_makeMixed 42 = .ok (.aload_n 0, 1) := by decide +kernel
theorem dX4_makeMixed_43 : decode cX4_makeMixed 43 = .ok (.getfield 32, 3) := by decide +kernel
theorem dX4_makeMixed_46 : decode cX4_makeMixed 46 = .ok (.iload 6, 2) := by decide +kernel
theorem dX4_makeMixed_48 : decode cX4_makeMixed 48 = .ok (.iconst 1, 1) := by decide +kernel
theorem dX4_makeMixed_49 : decode cX4_makeMixed 49 = .ok (.isub, 1) := by decide +kernel
theorem dX4_makeMixed_50 : decode cX4_makeMixed 50 = .ok (.iload_n 2, 1) := by decide +kernel
theorem dX4_makeMixed_51 : decode cX4_makeMixed 51 = .ok (.iload_n 3, 1) := by decide +kernel
theorem dX4_makeMixed_52 : decode cX4_makeMixed 52 = .ok (.invokestatic 240, 3) := by decide +kernel
theorem dX4_makeMixed_55 : decode cX4_makeMixed 55 = .ok (.aload_n 0, 1) := by decide +kernel
theorem dX4_makeMixed_56 : decode cX4_makeMixed 56 = .ok (.getfield 23, 3) := by decide +kernel
theorem dX4_makeMixed_59 : decode cX4_makeMixed 59 = .ok (.iload 6, 2) := by decide +kernel
theorem dX4_makeMixed_61 : decode cX4_makeMixed 61 = .ok (.iconst 1, 1) := by decide +kernel
theorem dX4_makeMixed_62 : decode cX4_makeMixed 62 = .ok (.isub, 1) := by decide +kernel
theorem dX4_makeMixed_63 : decode cX4_makeMixed 63 = .ok (.iload 4, 2) := by decide +kernel
theorem dX4_makeMixed_65 : decode cX4_makeMixed 65 = .ok (.iload 5, 2) := by decide +kernel
theorem dX4_makeMixed_67 : decode cX4_makeMixed 67 = .ok (.invokestatic 240, 3) := by decide +kernel
theorem dX4_makeMixed_70 : decode cX4_makeMixed 70 = .ok (.aload_n 0, 1) := by decide +kernel
theorem dX4_makeMixed_71 : decode cX4_makeMixed 71 = .ok (.getfield 32, 3) := by decide +kernel
theorem dX4_makeMixed_74 : decode cX4_makeMixed 74 = .ok (.aload_n 0, 1) := by decide +kernel
theorem dX4_makeMixed_75 : decode cX4_makeMixed 75 = .ok (.getfield 23, 3) := by decide +kernel
theorem dX4_makeMixed_78 : decode cX4_makeMixed 78 = .ok (.aload_n 0, 1) := by decide +kernel
theorem dX4_makeMixed_79 : decode cX4_makeMixed 79 = .ok (.getfield 19, 3) := by decide +kernel
theorem dX4_makeMixed_82 : decode cX4_makeMixed 82 = .ok (.iload 6, 2) := by decide +kernel
theorem dX4_makeMixed_84 : decode cX4_makeMixed 84 = .ok (.iaload, 1) := by decide +kernel
theorem dX4_makeMixed_85 : decode cX4_makeMixed 85 = .ok (.invokestatic 232, 3) := by decide +kernel
theorem dX4_makeMixed_88 : decode cX4_makeMixed 88 = .ok (.iinc 6 1, 3) := by decide +kernel
theorem dX4_makeMixed_91 : decode cX4_makeMixed 91 = .ok (.goto (-55), 3) := by decide +kernel
theorem dX4_makeMixed_94 : decode cX4_makeMixed 94 = .ok (.return_, 1) := by decide +kernel
theorem dX4_makeOverlap_0 : decode cX4_makeOverlap 0 = .ok (.aload_n 0, 1) := by decide +kernel
theorem dX4_makeOverlap_1 : decode cX4_makeOverlap 1 = .ok (.getfield 32, 3) := by decide +kernel
theorem dX4_makeOverlap_4 : decode cX4_makeOverlap 4 = .ok (.invokestatic 180, 3) := by decide +kernel
theorem dX4_makeOverlap_7 : decode cX4_makeOverlap 7 = .ok (.iconst 0, 1) := by decide +kernel
theorem dX4_makeOverlap_8 : decode cX4_makeOverlap 8 = .ok (.istore 4, 2) := by decide +kernel
theorem dX4_makeOverlap_10 : decode cX4_makeOverlap 10 = .ok (.iload 4, 2) := by decide +kernel
theorem dX4_makeOverlap_12 : decode cX4_makeOverlap 12 = .ok (.iload_n 3, 1) := by decide +kernel
theorem dX4_makeOverlap_13 : decode cX4_makeOverlap 13 = .ok (.if_icmp .gt 96, 3) := by decide +kernel
theorem dX4_makeOverlap_16 : decode cX4_makeOverlap 16 = .ok (.aload_n 0, 1) := by decide +kernel
theorem dX4_makeOverlap_17 : decode cX4_makeOverlap 17 = .ok (.getfield 19, 3) := by decide +kernel
theorem dX4_makeOverlap_20 : decode cX4_makeOverlap 20 = .ok (.iload_n 1, 1) := by decide +kernel
theorem dX4_makeOverlap_21 : decode cX4_makeOverlap 21 = .ok (.iload_n 3, 1) := by decide +kernel
theorem dX4_makeOverlap_22 : decode cX4_makeOverlap 22 = .ok (.iload 4, 2) := by decide +kernel
theorem dX4_makeOverlap_24 : decode cX4_makeOverlap 24 = .ok (.isub, 1) := by decide +kernel
theorem dX4_makeOverlap_25 : decode cX4_makeOverlap 25 = .ok (.iload 4, 2) := by decide +kernel
theorem dX4_makeOverlap_27 : decode cX4_makeOverlap 27 = .ok (.aload_n 0, 1) := by decide +kernel
theorem dX4_makeOverlap_28 : decode cX4_makeOverlap 28 = .ok (.getfield 26, 3) := by decide +kernel
theorem dX4_makeOverlap_31 : decode cX4_makeOverlap 31 = .ok (.invokestatic 135, 3) := by decide +kernel
theorem dX4_makeOverlap_34 : decode cX4_makeOverlap 34 = .ok (.aload_n 0, 1) := by decide +kernel
theorem dX4_makeOverlap_35 : decode cX4_makeOverlap 35 = .ok (.getfield 23, 3) := by decide +kernel
theorem dX4_makeOverlap_38 : decode cX4_makeOverlap 38 = .ok (.iload_n 2, 1) := by decide +kernel
theorem dX4_makeOverlap_39 : decode cX4_makeOverlap 39 = .ok (.iload 4, 2) := by decide +kernel
theorem dX4_makeOverlap_41 : decode cX4_makeOverlap 41 = .ok (.iload_n 3, 1) := by decide +kernel
theorem dX4_makeOverlap_42 : decode cX4_makeOverlap 42 = .ok (.iload 4, 2) := by decide +kernel
theorem dX4_makeOverlap_44 : decode cX4_makeOverlap 44 = .ok (.isub, 1) := by decide +kernel
theorem dX4_makeOverlap_45 : decode cX4_makeOverlap 45 = .ok (.aload_n 0, 1) := by decide +kernel
theorem dX4_makeOverlap_46 : decode cX4_makeOverlap 46 = .ok (.getfield 29, 3) := by decide +kernel
theorem dX4_makeOverlap_49 : decode cX4_makeOverlap 49 = .ok (.invokestatic 135, 3) := by decide +kernel
theorem dX4_makeOverlap_52 : decode cX4_makeOverlap 52 = .ok (.iload_n 3, 1) := by decide +kernel
theorem dX4_makeOverlap_53 : decode cX4_makeOverlap 53 = .ok (.iload 4, 2) := by decide +kernel
theorem dX4_makeOverlap_55 : decode cX4_makeOverlap 55 = .ok (.invokestatic 243, 3) := by decide +kernel
theorem dX4_makeOverlap_58 : decode cX4_makeOverlap 58 = .ok (.istore 5, 2) := by decide +kernel
theorem dX4_makeOverlap_60 : decode cX4_makeOverlap 60 = .ok (.iload 4, 2) := by decide +kernel
theorem dX4_makeOverlap_62 : decode cX4_makeOverlap 62 = .ok (.iconst 2, 1) := by decide +kernel
theorem dX4_makeOverlap_63 : decode cX4_makeOverlap 63 = .ok (.irem, 1) := by decide +kernel
theorem dX4_makeOverlap_64 : decode cX4_makeOverlap 64 = .ok (.ifCond .ne 8, 3) := by decide +kernel
theorem dX4_makeOverlap_67 : decode cX4_makeOverlap 67 = .ok (.iload 5, 2) := by decide +kernel
theorem dX4_makeOverlap_69 : decode cX4_makeOverlap 69 = .ok (.goto 9, 3) := by decide +kernel
theorem dX4_makeOverlap_72 : decode cX4_makeOverlap 72 = .ok (.sipush 10007, 3) := by decide +kernel
theorem dX4_makeOverlap_75 : decode cX4_makeOverlap 75 = .ok (.iload 5, 2) := by decide +kernel
theorem dX4_makeOverlap_77 : decode cX4_makeOverlap 77 = .ok (.isub, 1) := by decide +kernel
theorem dX4_makeOverlap_78 : decode cX4_makeOverlap 78 = .ok (.istore 6, 2) := by decide +kernel
theorem dX4_makeOverlap_80 : decode cX4_makeOverlap 80 = .ok (.aload_n 0, 1) := by decide +kernel
theorem dX4_makeOverlap_81 : decode cX4_makeOverlap 81 = .ok (.getfield 32, 3) := by decide +kernel
theorem dX4_makeOverlap_84 : decode cX4_makeOverlap 84 = .ok (.aload_n 0, 1) := by decide +kernel
theorem dX4_makeOverlap_85 : decode cX4_makeOverlap 85 = .ok (.getfield 26, 3) := by decide +kernel
theorem dX4_makeOverlap_88 : decode cX4_makeOverlap 88 = .ok (.iload_n 1, 1) := by decide +kernel
theorem dX4_makeOverlap_89 : decode cX4_makeOverlap 89 = .ok (.iload_n 3, 1) := by decide +kernel
theorem dX4_makeOverlap_90 : decode cX4_makeOverlap 90 = .ok (.isub, 1) := by decide +kernel
theorem dX4_makeOverlap_91 : decode cX4_makeOverlap 91 = .ok (.aload_n 0, 1) := by decide +kernel
theorem dX4_makeOverlap_92 : decode cX4_makeOverlap 92 = .ok (.getfield 29, 3) := by decide +kernel
theorem dX4_makeOverlap_95 : decode cX4_makeOverlap 95 = .ok (.iload_n 2, 1) := by decide +kernel
theorem dX4_makeOverlap_96 : decode cX4_makeOverlap 96 = .ok (.iload_n 3, 1) := by decide +kernel
theorem dX4_makeOverlap_97 : decode cX4_makeOverlap 97 = .ok (.isub, 1) := by decide +kernel
theorem dX4_makeOverlap_98 : decode cX4_makeOverlap 98 = .ok (.iload 6, 2) := by decide +kernel
theorem dX4_makeOverlap_100 : decode cX4_makeOverlap 100 = .ok (.invokestatic 236, 3) := by decide +kernel
theorem dX4_makeOverlap_103 : decode cX4_makeOverlap 103 = .ok (.iinc 4 1, 3) := by decide +kernel
theorem dX4_makeOverlap_106 : decode cX4_makeOverlap 106 = .ok (.goto (-96), 3) := by decide +kernel
theorem dX4_makeOverlap_109 : decode cX4_makeOverlap 109 = .ok (.iload_n 1, 1) := by decide +kernel
theorem dX4_makeOverlap_110 : decode cX4_makeOverlap 110 = .ok (.iload_n 3, 1) := by decide +kernel
theorem dX4_makeOverlap_111 : decode cX4_makeOverlap 111 = .ok (.isub, 1) := by decide +kernel
theorem dX4_makeOverlap_112 : decode cX4_makeOverlap 112 = .ok (.invokestatic 246, 3) := by decide +kernel
theorem dX4_makeOverlap_115 : decode cX4_makeOverlap 115 = .ok (.iload_n 2, 1) := by decide +kernel
theorem dX4_makeOverlap_116 : decode cX4_makeOverlap 116 = .ok (.iload_n 3, 1) := by decide +kernel
theorem dX4_makeOverlap_117 : decode cX4_makeOverlap 117 = .ok (.isub, 1) := by decide +kernel
theorem dX4_makeOverlap_118 : decode cX4_makeOverlap 118 = .ok (.invokestatic 246, 3) := by decide +kernel
theorem dX4_makeOverlap_121 : decode cX4_makeOverlap 121 = .ok (.imul, 1) := by decide +kernel
theorem dX4_makeOverlap_122 : decode cX4_makeOverlap 122 = .ok (.sipush 10007, 3) := by decide +kernel
theorem dX4_makeOverlap_125 : decode cX4_makeOverlap 125 = .ok (.irem, 1) := by decide +kernel
theorem dX4_makeOverlap_126 : decode cX4_makeOverlap 126 = .ok (.istore 4, 2) := by decide +kernel
theorem dX4_makeOverlap_128 : decode cX4_makeOverlap 128 = .ok (.iload_n 1, 1) := by decide +kernel
theorem dX4_makeOverlap_129 : decode cX4_makeOverlap 129 = .ok (.invokestatic 246, 3) := by decide +kernel
theorem dX4_makeOverlap_132 : decode cX4_makeOverlap 132 = .ok (.iload_n 2, 1) := by decide +kernel
theorem dX4_makeOverlap_133 : decode cX4_makeOverlap 133 = .ok (.invokestatic 246, 3) := by decide +kernel
theorem dX4_makeOverlap_136 : decode cX4_makeOverlap 136 = .ok (.imul, 1) := by decide +kernel
theorem dX4_makeOverlap_137 : decode cX4_makeOverlap 137 = .ok (.sipush 10007, 3) := by decide +kernel
theorem dX4_makeOverlap_140 : decode cX4_makeOverlap 140 = .ok (.irem, 1) := by decide +kernel
theorem dX4_makeOverlap_141 : decode cX4_makeOverlap 141 = .ok (.istore 5, 2) := by decide +kernel
theorem dX4_makeOverlap_143 : decode cX4_makeOverlap 143 = .ok (.aload_n 0, 1) := by decide +kernel
theorem dX4_makeOverlap_144 : decode cX4_makeOverlap 144 = .ok (.getfield 32, 3) := by decide +kernel
theorem dX4_makeOverlap_147 : decode cX4_makeOverlap 147 = .ok (.iload 4, 2) := by decide +kernel
theorem dX4_makeOverlap_149 : decode cX4_makeOverlap 149 = .ok (.iload 5, 2) := by decide +kernel
theorem dX4_makeOverlap_151 : decode cX4_makeOverlap 151 = .ok (.invokestatic 249, 3) := by decide +kernel
theorem dX4_makeOverlap_154 : decode cX4_makeOverlap 154 = .ok (.imul, 1) := by decide +kernel
theorem dX4_makeOverlap_155 : decode cX4_makeOverlap 155 = .ok (.sipush 10007, 3) := by decide +kernel
theorem dX4_makeOverlap_158 : decode cX4_makeOverlap 158 = .ok (.irem, 1) := by decide +kernel
theorem dX4_makeOverlap_159 : decode cX4_makeOverlap 159 = .ok (.invokestatic 252, 3) := by decide +kernel
theorem dX4_makeOverlap_162 : decode cX4_makeOverlap 162 = .ok (.return_, 1) := by decide +kernel
theorem dX4_findRoots_0 : decode cX4_findRoots 0 = .ok (.aload_n 0, 1) := by decide +kernel
theorem dX4_findRoots_1 : decode cX4_findRoots 1 = .ok (.iload_n 1, 1) := by decide +kernel
theorem dX4_findRoots_2 : decode cX4_findRoots 2 = .ok (.aload_n 0, 1) := by decide +kernel
theorem dX4_findRoots_3 : decode cX4_findRoots 3 = .ok (.getfield 19, 3) := by decide +kernel
theorem dX4_findRoots_6 : decode cX4_findRoots 6 = .ok (.invokevirtual 105, 3) := by decide +kernel
theorem dX4_findRoots_9 : decode cX4_findRoots 9 = .ok (.istore_n 2, 1) := by decide +kernel
theorem dX4_findRoots_10 : decode cX4_findRoots 10 = .ok (.iconst 0, 1) := by decide +kernel
theorem dX4_findRoots_11 : decode cX4_findRoots 11 = .ok (.istore_n 3, 1) := by decide +kernel
theorem dX4_findRoots_12 : decode cX4_findRoots 12 = .ok (.iconst 0, 1) := by decide +kernel
theorem dX4_findRoots_13 : decode cX4_findRoots 13 = .ok (.istore 4, 2) := by decide +kernel
theorem dX4_findRoots_15 : decode cX4_findRoots 15 = .ok (.iload 4, 2) := by decide +kernel
theorem dX4_findRoots_17 : decode cX4_findRoots 17 = .ok (.sipush 10007, 3) := by decide +kernel
theorem dX4_findRoots_20 : decode cX4_findRoots 20 = .ok (.if_icmp .gt 38, 3) := by decide +kernel
theorem dX4_findRoots_23 : decode cX4_findRoots 23 = .ok (.iload_n 3, 1) := by decide +kernel
theorem dX4_findRoots_24 : decode cX4_findRoots 24 = .ok (.iload_n 2, 1) := by decide +kernel
theorem dX4_findRoots_25 : decode cX4_findRoots 25 = .ok (.if_icmp .ge 33, 3) := by decide +kernel
theorem dX4_findRoots_28 : decode cX4_findRoots 28 = .ok (.aload_n 0, 1) := by decide +kernel
theorem dX4_findRoots_29 : decode cX4_findRoots 29 = .ok (.getfield 19, 3) := by decide +kernel
theorem dX4_findRoots_32 : decode cX4_findRoots 32 = .ok (.iload_n 2, 1) := by decide +kernel
theorem dX4_findRoots_33 : decode cX4_findRoots 33 = .ok (.iload 4, 2) := by decide +kernel
theorem dX4_findRoots_35 : decode cX4_findRoots 35 = .ok (.invokestatic 255, 3) := by decide +kernel
theorem dX4_findRoots_38 : decode cX4_findRoots 38 = .ok (.ifCond .ne 14, 3) := by decide +kernel
theorem dX4_findRoots_41 : decode cX4_findRoots 41 = .ok (.aload_n 0, 1) := by decide +kernel
theorem dX4_findRoots_42 : decode cX4_findRoots 42 = .ok (.getfield 26, 3) := by decide +kernel
theorem dX4_findRoots_45 : decode cX4_findRoots 45 = .ok (.iload_n 3, 1) := by decide +kernel
theorem dX4_findRoots_46 : decode cX4_findRoots 46 = .ok (.iload 4, 2) := by decide +kernel
theorem dX4_findRoots_48 : decode cX4_findRoots 48 = .ok (.iastore, 1) := by decide +kernel
theorem dX4_findRoots_49 : decode cX4_findRoots 49 = .ok (.iinc 3 1, 3) := by decide +kernel
theorem dX4_findRoots_52 : decode cX4_findRoots 52 = .ok (.iinc 4 1, 3) := by decide +kernel
theorem dX4_findRoots_55 : decode cX4_findRoots 55 = .ok (.goto (-40), 3) := by decide +kernel
theorem dX4_findRoots_58 : decode cX4_findRoots 58 = .ok (.iload_n 3, 1) := by decide +kernel
theorem dX4_findRoots_59 : decode cX4_findRoots 59 = .ok (.ireturn, 1) := by decide +kernel
theorem dX4_makeCommon_0 : decode cX4_makeCommon 0 = .ok (.aload_n 0, 1) := by decide +kernel
theorem dX4_makeCommon_1 : decode cX4_makeCommon 1 = .ok (.getfield 19, 3) := by decide +kernel
theorem dX4_makeCommon_4 : decode cX4_makeCommon 4 = .ok (.iload_n 1, 1) := by decide +kernel
theorem dX4_makeCommon_5 : decode cX4_makeCommon 5 = .ok (.invokestatic 259, 3) := by decide +kernel
theorem dX4_makeCommon_8 : decode cX4_makeCommon 8 = .ok (.istore_n 3, 1) := by decide +kernel
theorem dX4_makeCommon_9 : decode cX4_makeCommon 9 = .ok (.aload_n 0, 1) := by decide +kernel
theorem dX4_makeCommon_10 : decode cX4_makeCommon 10 = .ok (.getfield 23, 3) := by decide +kernel
theorem dX4_makeCommon_13 : decode cX4_makeCommon 13 = .ok (.iload_n 2, 1) := by decide +kernel
theorem dX4_makeCommon_14 : decode cX4_makeCommon 14 = .ok (.invokestatic 259, 3) := by decide +kernel
theorem dX4_makeCommon_17 : decode cX4_makeCommon 17 = .ok (.istore 4, 2) := by decide +kernel
theorem dX4_makeCommon_19 : decode cX4_makeCommon 19 = .ok (.iload_n 1, 1) := by decide +kernel
theorem dX4_makeCommon_20 : decode cX4_makeCommon 20 = .ok (.iload_n 3, 1) := by decide +kernel
theorem dX4_makeCommon_21 : decode cX4_makeCommon 21 = .ok (.isub, 1) := by decide +kernel
theorem dX4_makeCommon_22 : decode cX4_makeCommon 22 = .ok (.iload_n 2, 1) := by decide +kernel
theorem dX4_makeCommon_23 : decode cX4_makeCommon 23 = .ok (.iload 4, 2) := by decide +kernel
theorem dX4_makeCommon_25 : decode cX4_makeCommon 25 = .ok (.isub, 1) := by decide +kernel
theorem dX4_makeCommon_26 : decode cX4_makeCommon 26 = .ok (.invokestatic 263, 3) := by decide +kernel
theorem dX4_makeCommon_29 : decode cX4_makeCommon 29 = .ok (.istore 5, 2) := by decide +kernel
theorem dX4_makeCommon_31 : decode cX4_makeCommon 31 = .ok (.iconst 0, 1) := by decide +kernel
theorem dX4_makeCommon_32 : decode cX4_makeCommon 32 = .ok (.istore 6, 2) := by decide +kernel
theorem dX4_makeCommon_34 : decode cX4_makeCommon 34 = .ok (.iload 6, 2) := by decide +kernel
theorem dX4_makeCommon_36 : decode cX4_makeCommon 36 = .ok (.bipush 18, 2) := by decide +kernel
theorem dX4_makeCommon_38 : decode cX4_makeCommon 38 = .ok (.if_icmp .ge 58, 3) := by decide +kernel
theorem dX4_makeCommon_41 : decode cX4_makeCommon 41 = .ok (.iload_n 3, 1) := by decide +kernel
theorem dX4_makeCommon_42 : decode cX4_makeCommon 42 = .ok (.ifCond .lt 54, 3) := by decide +kernel
theorem dX4_makeCommon_45 : decode cX4_makeCommon 45 = .ok (.iload 4, 2) := by decide +kernel
theorem dX4_makeCommon_47 : decode cX4_makeCommon 47 = .ok (.ifCond .lt 49, 3) := by decide +kernel
theorem dX4_makeCommon_50 : decode cX4_makeCommon 50 = .ok (.iload_n 3, 1) := by decide +kernel
theorem dX4_makeCommon_51 : decode cX4_makeCommon 51 = .ok (.iload 4, 2) := by decide +kernel
theorem dX4_makeCommon_53 : decode cX4_makeCommon 53 = .ok (.if_icmp .lt 21, 3) := by decide +kernel
theorem dX4_makeCommon_56 : decode cX4_makeCommon 56 = .ok (.aload_n 0, 1) := by decide +kernel
theorem dX4_makeCommon_57 : decode cX4_makeCommon 57 = .ok (.getfield 19, 3) := by decide +kernel
theorem dX4_makeCommon_60 : decode cX4_makeCommon 60 = .ok (.iload_n 3, 1) := by decide +kernel
theorem dX4_makeCommon_61 : decode cX4_makeCommon 61 = .ok (.aload_n 0, 1) := by decide +kernel
theorem dX4_makeCommon_62 : decode cX4_makeCommon 62 = .ok (.getfield 23, 3) := by decide +kernel
theorem dX4_makeCommon_65 : decode cX4_makeCommon 65 = .ok (.iload 4, 2) := by decide +kernel
theorem dX4_makeCommon_67 : decode cX4_makeCommon 67 = .ok (.invokestatic 268, 3) := by decide +kernel
theorem dX4_makeCommon_70 : decode cX4_makeCommon 70 = .ok (.istore_n 3, 1) := by decide +kernel
theorem dX4_makeCommon_71 : decode cX4_makeCommon 71 = .ok (.goto 19, 3) := by decide +kernel
theorem dX4_makeCommon_74 : decode cX4_makeCommon 74 = .ok (.aload_n 0, 1) := by decide +kernel
theorem dX4_makeCommon_75 : decode cX4_makeCommon 75 = .ok (.getfield 23, 3) := by decide +kernel
theorem dX4_makeCommon_78 : decode cX4_makeCommon 78 = .ok (.iload 4, 2) := by decide +kernel
theorem dX4_makeCommon_80 : decode cX4_makeCommon 80 = .ok (.aload_n 0, 1) := by decide +kernel
theorem dX4_makeCommon_81 : decode cX4_makeCommon 81 = .ok (.getfield 19, 3) := by decide +kernel
theorem dX4_makeCommon_84 : decode cX4_makeCommon 84 = .ok (.iload_n 3, 1) := by decide +kernel
theorem dX4_makeCommon_85 : decode cX4_makeCommon 85 = .ok (.invokestatic 268, 3) := by decide +kernel
theorem dX4_makeCommon_88 : decode cX4_makeCommon 88 = .ok (.istore 4, 2) := by decide +kernel
theorem dX4_makeCommon_90 : decode cX4_makeCommon 90 = .ok (.iinc 6 1, 3) := by decide +kernel
theorem dX4_makeCommon_93 : decode cX4_makeCommon 93 = .ok (.goto (-59), 3) := by decide +kernel
theorem dX4_makeCommon_96 : decode cX4_makeCommon 96 = .ok (.iload_n 3, 1) := by decide +kernel
theorem dX4_makeCommon_97 : decode cX4_makeCommon 97 = .ok (.ifCond .lt 10, 3) := by decide +kernel
theorem dX4_makeCommon_100 : decode cX4_makeCommon 100 = .ok (.aload_n 0, 1) := by decide +kernel
theorem dX4_makeCommon_101 : decode cX4_makeCommon 101 = .ok (.getfield 19, 3) := by decide +kernel
theorem dX4_makeCommon_104 : decode cX4_makeCommon 104 = .ok (.goto 7, 3) := by decide +kernel
theorem dX4_makeCommon_107 : decode cX4_makeCommon 107 = .ok (.aload_n 0, 1) := by decide +kernel
theorem dX4_makeCommon_108 : decode cX4_makeCommon 108 = .ok (.getfield 23, 3) := by decide +kernel
theorem dX4_makeCommon_111 : decode cX4_makeCommon 111 = .ok (.astore 6, 2) := by decide +kernel
theorem dX4_makeCommon_113 : decode cX4_makeCommon 113 = .ok (.iload_n 3, 1) := by decide +kernel
theorem dX4_makeCommon_114 : decode cX4_makeCommon 114 = .ok (.iload 4, 2) := by decide +kernel
theorem dX4_makeCommon_116 : decode cX4_makeCommon 116 = .ok (.invokestatic 272, 3) := by decide +kernel
theorem dX4_makeCommon_119 : decode cX4_makeCommon 119 = .ok (.istore 7, 2) := by decide +kernel
theorem dX4_makeCommon_121 : decode cX4_makeCommon 121 = .ok (.aload 6, 2) := by decide +kernel
theorem dX4_makeCommon_123 : decode cX4_makeCommon 123 = .ok (.aload 6, 2) := by decide +kernel
theorem dX4_makeCommon_125 : decode cX4_makeCommon 125 = .ok (.iconst 0, 1) := by decide +kernel
theorem dX4_makeCommon_126 : decode cX4_makeCommon 126 = .ok (.iaload, 1) := by decide +kernel
theorem dX4_makeCommon_127 : decode cX4_makeCommon 127 = .ok (.invokestatic 249, 3) := by decide +kernel
theorem dX4_makeCommon_130 : decode cX4_makeCommon 130 = .ok (.invokestatic 252, 3) := by decide +kernel
theorem dX4_makeCommon_133 : decode cX4_makeCommon 133 = .ok (.aload_n 0, 1) := by decide +kernel
theorem dX4_makeCommon_134 : decode cX4_makeCommon 134 = .ok (.getfield 32, 3) := by decide +kernel
theorem dX4_makeCommon_137 : decode cX4_makeCommon 137 = .ok (.invokestatic 180, 3) := by decide +kernel
theorem dX4_makeCommon_140 : decode cX4_makeCommon 140 = .ok (.iconst 0, 1) := by decide +kernel
theorem dX4_makeCommon_141 : decode cX4_makeCommon 141 = .ok (.istore 8, 2) := by decide +kernel
theorem dX4_makeCommon_143 : decode cX4_makeCommon 143 = .ok (.iload 8, 2) := by decide +kernel
theorem dX4_makeCommon_145 : decode cX4_makeCommon 145 = .ok (.iload 7, 2) := by decide +kernel
theorem dX4_makeCommon_147 : decode cX4_makeCommon 147 = .ok (.if_icmp .gt 34, 3) := by decide +kernel
theorem dX4_makeCommon_150 : decode cX4_makeCommon 150 = .ok (.iload 5, 2) := by decide +kernel
theorem dX4_makeCommon_152 : decode cX4_makeCommon 152 = .ok (.iload 8, 2) := by decide +kernel
theorem dX4_makeCommon_154 : decode cX4_makeCommon 154 = .ok (.iadd, 1) := by decide +kernel
theorem dX4_makeCommon_155 : decode cX4_makeCommon 155 = .ok (.bipush 9, 2) := by decide +kernel
theorem dX4_makeCommon_157 : decode cX4_makeCommon 157 = .ok (.if_icmp .ge 24, 3) := by decide +kernel
theorem dX4_makeCommon_160 : decode cX4_makeCommon 160 = .ok (.aload_n 0, 1) := by decide +kernel
theorem dX4_makeCommon_161 : decode cX4_makeCommon 161 = .ok (.getfield 32, 3) := by decide +kernel
theorem dX4_makeCommon_164 : decode cX4_makeCommon 164 = .ok (.iload 5, 2) := by decide +kernel
theorem dX4_makeCommon_166 : decode cX4_makeCommon 166 = .ok (.iload 8, 2) := by decide +kernel
theorem dX4_makeCommon_168 : decode cX4_makeCommon 168 = .ok (.iadd, 1) := by decide +kernel
theorem dX4_makeCommon_169 : decode cX4_makeCommon 169 = .ok (.aload 6, 2) := by decide +kernel
theorem dX4_makeCommon_171 : decode cX4_makeCommon 171 = .ok (.iload 8, 2) := by decide +kernel
theorem dX4_makeCommon_173 : decode cX4_makeCommon 173 = .ok (.iaload, 1) := by decide +kernel
theorem dX4_makeCommon_174 : decode cX4_makeCommon 174 = .ok (.iastore, 1) := by decide +kernel
theorem dX4_makeCommon_175 : decode cX4_makeCommon 175 = .ok (.iinc 8 1, 3) := by decide +kernel
theorem dX4_makeCommon_178 : decode cX4_makeCommon 178 = .ok (.goto (-35), 3) := by decide +kernel
theorem dX4_makeCommon_181 : decode cX4_makeCommon 181 = .ok (.iload 5, 2) := by decide +kernel
theorem dX4_makeCommon_183 : decode cX4_makeCommon 183 = .ok (.iload 7, 2) := by decide +kernel
theorem dX4_makeCommon_185 : decode cX4_makeCommon 185 = .ok (.iadd, 1) := by decide +kernel
theorem dX4_makeCommon_186 : decode cX4_makeCommon 186 = .ok (.ireturn, 1) := by decide +kernel
theorem dX4_makePowers_0 : decode cX4_makePowers 0 = .ok (.aload_n 0, 1) := by decide +kernel
theorem dX4_makePowers_1 : decode cX4_makePowers 1 = .ok (.getfield 19, 3) := by decide +kernel
theorem dX4_makePowers_4 : decode cX4_makePowers 4 = .ok (.iload_n 1, 1) := by decide +kernel
theorem dX4_makePowers_5 : decode cX4_makePowers 5 = .ok (.invokestatic 186, 3) := by decide +kernel
theorem dX4_makePowers_8 : decode cX4_makePowers 8 = .ok (.aload_n 0, 1) := by decide +kernel
theorem dX4_makePowers_9 : decode cX4_makePowers 9 = .ok (.getfield 38, 3) := by decide +kernel
theorem dX4_makePowers_12 : decode cX4_makePowers 12 = .ok (.invokevirtual 155, 3) := by decide +kernel
theorem dX4_makePowers_15 : decode cX4_makePowers 15 = .ok (.aload_n 0, 1) := by decide +kernel
theorem dX4_makePowers_16 : decode cX4_makePowers 16 = .ok (.getfield 38, 3) := by decide +kernel
theorem dX4_makePowers_19 : decode cX4_makePowers 19 = .ok (.aload_n 2, 1) := by decide +kernel
theorem dX4_makePowers_20 : decode cX4_makePowers 20 = .ok (.iload_n 3, 1) := by decide +kernel
theorem dX4_makePowers_21 : decode cX4_makePowers 21 = .ok (.aload_n 0, 1) := by decide +kernel
theorem dX4_makePowers_22 : decode cX4_makePowers 22 = .ok (.getfield 19, 3) := by decide +kernel
theorem dX4_makePowers_25 : decode cX4_makePowers 25 = .ok (.iload_n 1, 1) := by decide +kernel
theorem dX4_makePowers_26 : decode cX4_makePowers 26 = .ok (.invokevirtual 275, 3) := by decide +kernel
theorem dX4_makePowers_29 : decode cX4_makePowers 29 = .ok (.aload_n 0, 1) := by decide +kernel
theorem dX4_makePowers_30 : decode cX4_makePowers 30 = .ok (.getfield 38, 3) := by decide +kernel
theorem dX4_makePowers_33 : decode cX4_makePowers 33 = .ok (.iload_n 1, 1) := by decide +kernel
theorem dX4_makePowers_34 : decode cX4_makePowers 34 = .ok (.iconst 1, 1) := by decide +kernel
theorem dX4_makePowers_35 : decode cX4_makePowers 35 = .ok (.iadd, 1) := by decide +kernel
theorem dX4_makePowers_36 : decode cX4_makePowers 36 = .ok (.iload_n 3, 1) := by decide +kernel
theorem dX4_makePowers_37 : decode cX4_makePowers 37 = .ok (.iconst 1, 1) := by decide +kernel
theorem dX4_makePowers_38 : decode cX4_makePowers 38 = .ok (.iadd, 1) := by decide +kernel
theorem dX4_makePowers_39 : decode cX4_makePowers 39 = .ok (.iload_n 3, 1) := by decide +kernel
theorem dX4_makePowers_40 : decode cX4_makePowers 40 = .ok (.invokevirtual 193, 3) := by decide +kernel
theorem dX4_makePowers_43 : decode cX4_makePowers 43 = .ok (.pop, 1) := by decide +kernel
theorem dX4_makePowers_44 : decode cX4_makePowers 44 = .ok (.iload_n 3, 1) := by decide +kernel
theorem dX4_makePowers_45 : decode cX4_makePowers 45 = .ok (.istore 4, 2) := by decide +kernel
theorem dX4_makePowers_47 : decode cX4_makePowers 47 = .ok (.iload 4, 2) := by decide +kernel
theorem dX4_makePowers_49 : decode cX4_makePowers 49 = .ok (.iload_n 1, 1) := by decide +kernel
theorem dX4_makePowers_50 : decode cX4_makePowers 50 = .ok (.if_icmp .gt 24, 3) := by decide +kernel
theorem dX4_makePowers_53 : decode cX4_makePowers 53 = .ok (.aload_n 0, 1) := by decide +kernel
theorem dX4_makePowers_54 : decode cX4_makePowers 54 = .ok (.getfield 38, 3) := by decide +kernel
theorem dX4_makePowers_57 : decode cX4_makePowers 57 = .ok (.iload 4, 2) := by decide +kernel
theorem dX4_makePowers_59 : decode cX4_makePowers 59 = .ok (.iload_n 3, 1) := by decide +kernel
theorem dX4_makePowers_60 : decode cX4_makePowers 60 = .ok (.invokevirtual 279, 3) := by decide +kernel
theorem dX4_makePowers_63 : decode cX4_makePowers 63 = .ok (.ifCond .eq 5, 3) := by decide +kernel
theorem dX4_makePowers_66 : decode cX4_makePowers 66 = .ok (.iconst 0, 1) := by decide +kernel
theorem dX4_makePowers_67 : decode cX4_makePowers 67 = .ok (.ireturn, 1) := by decide +kernel
theorem dX4_makePowers_68 : decode cX4_makePowers 68 = .ok (.iinc 4 1, 3) := by decide +kernel
theorem dX4_makePowers_71 : decode cX4_makePowers 71 = .ok (.goto (-24), 3) := by decide +kernel
theorem dX4_makePowers_74 : decode cX4_makePowers 74 = .ok (.aload_n 0, 1) := by decide +kernel
theorem dX4_makePowers_75 : decode cX4_makePowers 75 = .ok (.getfield 32, 3) := by decide +kernel
theorem dX4_makePowers_78 : decode cX4_makePowers 78 = .ok (.invokestatic 180, 3) := by decide +kernel
theorem dX4_makePowers_81 : decode cX4_makePowers 81 = .ok (.iconst 0, 1) := by decide +kernel
theorem dX4_makePowers_82 : decode cX4_makePowers 82 = .ok (.istore 4, 2) := by decide +kernel
theorem dX4_makePowers_84 : decode cX4_makePowers 84 = .ok (.iload 4, 2) := by decide +kernel
theorem dX4_makePowers_86 : decode cX4_makePowers 86 = .ok (.iload_n 3, 1) := by decide +kernel
theorem dX4_makePowers_87 : decode cX4_makePowers 87 = .ok (.if_icmp .ge 26, 3) := by decide +kernel
theorem dX4_makePowers_90 : decode cX4_makePowers 90 = .ok (.aload_n 0, 1) := by decide +kernel
theorem dX4_makePowers_91 : decode cX4_makePowers 91 = .ok (.getfield 32, 3) := by decide +kernel
theorem dX4_makePowers_94 : decode cX4_makePowers 94 = .ok (.iload 4, 2) := by decide +kernel
theorem dX4_makePowers_96 : decode cX4_makePowers 96 = .ok (.aload_n 0, 1) := by decide +kernel
theorem dX4_makePowers_97 : decode cX4_makePowers 97 = .ok (.getfield 38, 3) := by decide +kernel
theorem dX4_makePowers_100 : decode cX4_makePowers 100 = .ok (.iload 4, 2) := by decide +kernel
theorem dX4_makePowers_102 : decode cX4_makePowers 102 = .ok (.iload_n 3, 1) := by decide +kernel
theorem dX4_makePowers_103 : decode cX4_makePowers 103 = .ok (.invokevirtual 279, 3) := by decide +kernel
theorem dX4_makePowers_106 : decode cX4_makePowers 106 = .ok (.iastore, 1) := by decide +kernel
theorem dX4_makePowers_107 : decode cX4_makePowers 107 = .ok (.iinc 4 1, 3) := by decide +kernel
theorem dX4_makePowers_110 : decode cX4_makePowers 110 = .ok (.goto (-26), 3) := by decide +kernel
theorem dX4_makePowers_113 : decode cX4_makePowers 113 = .ok (.iconst 1, 1) := by decide +kernel
theorem dX4_makePowers_114 : decode cX4_makePowers 114 = .ok (.ireturn, 1) := by decide +kernel
theorem dX4_tablesWithin_0 : decode cX4_tablesWithin 0 = .ok (.iconst 2, 1) := by decide +kernel
theorem dX4_tablesWithin_1 : decode cX4_tablesWithin 1 = .ok (.iload_n 0, 1) := by decide +kernel
theorem dX4_tablesWithin_2 : decode cX4_tablesWithin 2 = .ok (.imul, 1) := by decide +kernel
theorem dX4_tablesWithin_3 : decode cX4_tablesWithin 3 = .ok (.iconst 1, 1) := by decide +kernel
theorem dX4_tablesWithin_4 : decode cX4_tablesWithin 4 = .ok (.iadd, 1) := by decide +kernel
theorem dX4_tablesWithin_5 : decode cX4_tablesWithin 5 = .ok (.istore_n 1, 1) := by decide +kernel
theorem dX4_tablesWithin_6 : decode cX4_tablesWithin 6 = .ok (.iload_n 1, 1) := by decide +kernel
theorem dX4_tablesWithin_7 : decode cX4_tablesWithin 7 = .ok (.iload_n 1, 1) := by decide +kernel
theorem dX4_tablesWithin_8 : decode cX4_tablesWithin 8 = .ok (.imul, 1) := by decide +kernel
theorem dX4_tablesWithin_9 : decode cX4_tablesWithin 9 = .ok (.iload_n 1, 1) := by decide +kernel
theorem dX4_tablesWithin_10 : decode cX4_tablesWithin 10 = .ok (.imul, 1) := by decide +kernel
theorem dX4_tablesWithin_11 : decode cX4_tablesWithin 11 = .ok (.iload_n 1, 1) := by decide +kernel
theorem dX4_tablesWithin_12 : decode cX4_tablesWithin 12 = .ok (.imul, 1) := by decide +kernel
theorem dX4_tablesWithin_13 : decode cX4_tablesWithin 13 = .ok (.ireturn, 1) := by decide +kernel
theorem dX4_entry_0 : decode cX4_entry 0 = .ok (.iconst 2, 1) := by decide +kernel
theorem dX4_entry_1 : decode cX4_entry 1 = .ok (.iload_n 0, 1) := by decide +kernel
theorem dX4_entry_2 : decode cX4_entry 2 = .ok (.imul, 1) := by decide +kernel
theorem dX4_entry_3 : decode cX4_entry 3 = .ok (.iconst 1, 1) := by decide +kernel
theorem dX4_entry_4 : decode cX4_entry 4 = .ok (.iadd, 1) := by decide +kernel
theorem dX4_entry_5 : decode cX4_entry 5 = .ok (.istore_n 3, 1) := by decide +kernel
theorem dX4_entry_6 : decode cX4_entry 6 = .ok (.iload_n 1, 1) := by decide +kernel
theorem dX4_entry_7 : decode cX4_entry 7 = .ok (.istore 4, 2) := by decide +kernel
theorem dX4_entry_9 : decode cX4_entry 9 = .ok (.iload_n 2, 1) := by decide +kernel
theorem dX4_entry_10 : decode cX4_entry 10 = .ok (.istore 5, 2) := by decide +kernel
theorem dX4_entry_12 : decode cX4_entry 12 = .ok (.iload 5, 2) := by decide +kernel
theorem dX4_entry_14 : decode cX4_entry 14 = .ok (.iconst 3, 1) := by decide +kernel
theorem dX4_entry_15 : decode cX4_entry 15 = .ok (.if_icmp .ge 15, 3) := by decide +kernel
theorem dX4_entry_18 : decode cX4_entry 18 = .ok (.iload 4, 2) := by decide +kernel
theorem dX4_entry_20 : decode cX4_entry 20 = .ok (.iload_n 3, 1) := by decide +kernel
theorem dX4_entry_21 : decode cX4_entry 21 = .ok (.idiv, 1) := by decide +kernel
theorem dX4_entry_22 : decode cX4_entry 22 = .ok (.istore 4, 2) := by decide +kernel
theorem dX4_entry_24 : decode cX4_entry 24 = .ok (.iinc 5 1, 3) := by decide +kernel
theorem dX4_entry_27 : decode cX4_entry 27 = .ok (.goto (-15), 3) := by decide +kernel
theorem dX4_entry_30 : decode cX4_entry 30 = .ok (.iload 4, 2) := by decide +kernel
theorem dX4_entry_32 : decode cX4_entry 32 = .ok (.iload_n 3, 1) := by decide +kernel
theorem dX4_entry_33 : decode cX4_entry 33 = .ok (.irem, 1) := by decide +kernel
theorem dX4_entry_34 : decode cX4_entry 34 = .ok (.iload_n 0, 1) := by decide +kernel
theorem dX4_entry_35 : decode cX4_entry 35 = .ok (.isub, 1) := by decide +kernel
theorem dX4_entry_36 : decode cX4_entry 36 = .ok (.ireturn, 1) := by decide +kernel
theorem dX4_codeOf_0 : decode cX4_codeOf 0 = .ok (.iconst 0, 1) := by decide +kernel
theorem dX4_codeOf_1 : decode cX4_codeOf 1 = .ok (.istore_n 2, 1) := by decide +kernel
theorem dX4_codeOf_2 : decode cX4_codeOf 2 = .ok (.iconst 0, 1) := by decide +kernel
theorem dX4_codeOf_3 : decode cX4_codeOf 3 = .ok (.istore_n 3, 1) := by decide +kernel
theorem dX4_codeOf_4 : decode cX4_codeOf 4 = .ok (.iload_n 3, 1) := by decide +kernel
theorem dX4_codeOf_5 : decode cX4_codeOf 5 = .ok (.iconst 4, 1) := by decide +kernel
theorem dX4_codeOf_6 : decode cX4_codeOf 6 = .ok (.if_icmp .ge 23, 3) := by decide +kernel
theorem dX4_codeOf_9 : decode cX4_codeOf 9 = .ok (.bipush 10, 2) := by decide +kernel
theorem dX4_codeOf_11 : decode cX4_codeOf 11 = .ok (.iload_n 2, 1) := by decide +kernel
theorem dX4_codeOf_12 : decode cX4_codeOf 12 = .ok (.imul, 1) := by decide +kernel
theorem dX4_codeOf_13 : decode cX4_codeOf 13 = .ok (.iload_n 0, 1) := by decide +kernel
theorem dX4_codeOf_14 : decode cX4_codeOf 14 = .ok (.iload_n 1, 1) := by decide +kernel
theorem dX4_codeOf_15 : decode cX4_codeOf 15 = .ok (.iload_n 3, 1) := by decide +kernel
theorem dX4_codeOf_16 : decode cX4_codeOf 16 = .ok (.invokestatic 282, 3) := by decide +kernel
theorem dX4_codeOf_19 : decode cX4_codeOf 19 = .ok (.iadd, 1) := by decide +kernel
theorem dX4_codeOf_20 : decode cX4_codeOf 20 = .ok (.iconst 2, 1) := by decide +kernel
theorem dX4_codeOf_21 : decode cX4_codeOf 21 = .ok (.iadd, 1) := by decide +kernel
theorem dX4_codeOf_22 : decode cX4_codeOf 22 = .ok (.istore_n 2, 1) := by decide +kernel
theorem dX4_codeOf_23 : decode cX4_codeOf 23 = .ok (.iinc 3 1, 3) := by decide +kernel
theorem dX4_codeOf_26 : decode cX4_codeOf 26 = .ok (.goto (-22), 3) := by decide +kernel
theorem dX4_codeOf_29 : decode cX4_codeOf 29 = .ok (.iload_n 2, 1) := by decide +kernel
theorem dX4_codeOf_30 : decode cX4_codeOf 30 = .ok (.ireturn, 1) := by decide +kernel
theorem dX4_loadLeads_0 : decode cX4_loadLeads 0 = .ok (.aload_n 0, 1) := by decide +kernel
theorem dX4_loadLeads_1 : decode cX4_loadLeads 1 = .ok (.iload_n 1, 1) := by decide +kernel
theorem dX4_loadLeads_2 : decode cX4_loadLeads 2 = .ok (.aload_n 0, 1) := by decide +kernel
theorem dX4_loadLeads_3 : decode cX4_loadLeads 3 = .ok (.getfield 19, 3) := by decide +kernel
theorem dX4_loadLeads_6 : decode cX4_loadLeads 6 = .ok (.invokevirtual 105, 3) := by decide +kernel
theorem dX4_loadLeads_9 : decode cX4_loadLeads 9 = .ok (.istore_n 3, 1) := by decide +kernel
theorem dX4_loadLeads_10 : decode cX4_loadLeads 10 = .ok (.aload_n 0, 1) := by decide +kernel
theorem dX4_loadLeads_11 : decode cX4_loadLeads 11 = .ok (.iload_n 2, 1) := by decide +kernel
theorem dX4_loadLeads_12 : decode cX4_loadLeads 12 = .ok (.aload_n 0, 1) := by decide +kernel
theorem dX4_loadLeads_13 : decode cX4_loadLeads 13 = .ok (.getfield 23, 3) := by decide +kernel
theorem dX4_loadLeads_16 : decode cX4_loadLeads 16 = .ok (.invokevirtual 105, 3) := by decide +kernel
theorem dX4_loadLeads_19 : decode cX4_loadLeads 19 = .ok (.pop, 1) := by decide +kernel
theorem dX4_loadLeads_20 : decode cX4_loadLeads 20 = .ok (.iconst 0, 1) := by decide +kernel
theorem dX4_loadLeads_21 : decode cX4_loadLeads 21 = .ok (.istore 4, 2) := by decide +kernel
theorem dX4_loadLeads_23 : decode cX4_loadLeads 23 = .ok (.iload 4, 2) := by decide +kernel
theorem dX4_loadLeads_25 : decode cX4_loadLeads 25 = .ok (.iload_n 3, 1) := by decide +kernel
theorem dX4_loadLeads_26 : decode cX4_loadLeads 26 = .ok (.if_icmp .gt 26, 3) := by decide +kernel
theorem dX4_loadLeads_29 : decode cX4_loadLeads 29 = .ok (.aload_n 0, 1) := by decide +kernel
theorem dX4_loadLeads_30 : decode cX4_loadLeads 30 = .ok (.getfield 26, 3) := by decide +kernel
theorem dX4_loadLeads_33 : decode cX4_loadLeads 33 = .ok (.iload 4, 2) := by decide +kernel
theorem dX4_loadLeads_35 : decode cX4_loadLeads 35 = .ok (.aload_n 0, 1) := by decide +kernel
theorem dX4_loadLeads_36 : decode cX4_loadLeads 36 = .ok (.getfield 23, 3) := by decide +kernel
theorem dX4_loadLeads_39 : decode cX4_loadLeads 39 = .ok (.iload_n 3, 1) := by decide +kernel
theorem dX4_loadLeads_40 : decode cX4_loadLeads 40 = .ok (.iload 4, 2) := by decide +kernel
theorem dX4_loadLeads_42 : decode cX4_loadLeads 42 = .ok (.invokestatic 255, 3) := by decide +kernel
theorem dX4_loadLeads_45 : decode cX4_loadLeads 45 = .ok (.iastore, 1) := by decide +kernel
theorem dX4_loadLeads_46 : decode cX4_loadLeads 46 = .ok (.iinc 4 1, 3) := by decide +kernel
theorem dX4_loadLeads_49 : decode cX4_loadLeads 49 = .ok (.goto (-26), 3) := by decide +kernel
theorem dX4_loadLeads_52 : decode cX4_loadLeads 52 = .ok (.iload_n 3, 1) := by decide +kernel
theorem dX4_loadLeads_53 : decode cX4_loadLeads 53 = .ok (.ireturn, 1) := by decide +kernel
theorem dX4_isLead_0 : decode cX4_isLead 0 = .ok (.iload_n 2, 1) := by decide +kernel
theorem dX4_isLead_1 : decode cX4_isLead 1 = .ok (.iload_n 3, 1) := by decide +kernel
theorem dX4_isLead_2 : decode cX4_isLead 2 = .ok (.iconst 0, 1) := by decide +kernel
theorem dX4_isLead_3 : decode cX4_isLead 3 = .ok (.invokestatic 282, 3) := by decide +kernel
theorem dX4_isLead_6 : decode cX4_isLead 6 = .ok (.istore 4, 2) := by decide +kernel
theorem dX4_isLead_8 : decode cX4_isLead 8 = .ok (.iload_n 2, 1) := by decide +kernel
theorem dX4_isLead_9 : decode cX4_isLead 9 = .ok (.iload_n 3, 1) := by decide +kernel
theorem dX4_isLead_10 : decode cX4_isLead 10 = .ok (.iconst 1, 1) := by decide +kernel
theorem dX4_isLead_11 : decode cX4_isLead 11 = .ok (.invokestatic 282, 3) := by decide +kernel
theorem dX4_isLead_14 : decode cX4_isLead 14 = .ok (.istore 5, 2) := by decide +kernel
theorem dX4_isLead_16 : decode cX4_isLead 16 = .ok (.iload_n 2, 1) := by decide +kernel
theorem dX4_isLead_17 : decode cX4_isLead 17 = .ok (.iload_n 3, 1) := by decide +kernel
theorem dX4_isLead_18 : decode cX4_isLead 18 = .ok (.iconst 2, 1) := by decide +kernel
theorem dX4_isLead_19 : decode cX4_isLead 19 = .ok (.invokestatic 282, 3) := by decide +kernel
theorem dX4_isLead_22 : decode cX4_isLead 22 = .ok (.istore 6, 2) := by decide +kernel
theorem dX4_isLead_24 : decode cX4_isLead 24 = .ok (.iload_n 2, 1) := by decide +kernel
theorem dX4_isLead_25 : decode cX4_isLead 25 = .ok (.iload_n 3, 1) := by decide +kernel
theorem dX4_isLead_26 : decode cX4_isLead 26 = .ok (.iconst 3, 1) := by decide +kernel
theorem dX4_isLead_27 : decode cX4_isLead 27 = .ok (.invokestatic 282, 3) := by decide +kernel
theorem dX4_isLead_30 : decode cX4_isLead 30 = .ok (.istore 7, 2) := by decide +kernel
theorem dX4_isLead_32 : decode cX4_isLead 32 = .ok (.iload 4, 2) := by decide +kernel
theorem dX4_isLead_34 : decode cX4_isLead 34 = .ok (.iload 7, 2) := by decide +kernel
theorem dX4_isLead_36 : decode cX4_isLead 36 = .ok (.imul, 1) := by decide +kernel
theorem dX4_isLead_37 : decode cX4_isLead 37 = .ok (.iload 5, 2) := by decide +kernel
theorem dX4_isLead_39 : decode cX4_isLead 39 = .ok (.iload 6, 2) := by decide +kernel
theorem dX4_isLead_41 : decode cX4_isLead 41 = .ok (.imul, 1) := by decide +kernel
theorem dX4_isLead_42 : decode cX4_isLead 42 = .ok (.if_icmp .ne 5, 3) := by decide +kernel
theorem dX4_isLead_45 : decode cX4_isLead 45 = .ok (.iconst 0, 1) := by decide +kernel
theorem dX4_isLead_46 : decode cX4_isLead 46 = .ok (.ireturn, 1) := by decide +kernel
theorem dX4_isLead_47 : decode cX4_isLead 47 = .ok (.iconst 0, 1) := by decide +kernel
theorem dX4_isLead_48 : decode cX4_isLead 48 = .ok (.istore 8, 2) := by decide +kernel
theorem dX4_isLead_50 : decode cX4_isLead 50 = .ok (.iload 8, 2) := by decide +kernel
theorem dX4_isLead_52 : decode cX4_isLead 52 = .ok (.iload_n 1, 1) := by decide +kernel
theorem dX4_isLead_53 : decode cX4_isLead 53 = .ok (.if_icmp .gt 59, 3) := by decide +kernel
theorem dX4_isLead_56 : decode cX4_isLead 56 = .ok (.iload 4, 2) := by decide +kernel
theorem dX4_isLead_58 : decode cX4_isLead 58 = .ok (.iload 5, 2) := by decide +kernel
theorem dX4_isLead_60 : decode cX4_isLead 60 = .ok (.iload 8, 2) := by decide +kernel
theorem dX4_isLead_62 : decode cX4_isLead 62 = .ok (.imul, 1) := by decide +kernel
theorem dX4_isLead_63 : decode cX4_isLead 63 = .ok (.iadd, 1) := by decide +kernel
theorem dX4_isLead_64 : decode cX4_isLead 64 = .ok (.invokestatic 109, 3) := by decide +kernel
theorem dX4_isLead_67 : decode cX4_isLead 67 = .ok (.istore 9, 2) := by decide +kernel
theorem dX4_isLead_69 : decode cX4_isLead 69 = .ok (.iload 6, 2) := by decide +kernel
theorem dX4_isLead_71 : decode cX4_isLead 71 = .ok (.iload 7, 2) := by decide +kernel
theorem dX4_isLead_73 : decode cX4_isLead 73 = .ok (.iload 8, 2) := by decide +kernel
theorem dX4_isLead_75 : decode cX4_isLead 75 = .ok (.imul, 1) := by decide +kernel
theorem dX4_isLead_76 : decode cX4_isLead 76 = .ok (.iadd, 1) := by decide +kernel
theorem dX4_isLead_77 : decode cX4_isLead 77 = .ok (.invokestatic 109, 3) := by decide +kernel
theorem dX4_isLead_80 : decode cX4_isLead 80 = .ok (.istore 10, 2) := by decide +kernel
theorem dX4_isLead_82 : decode cX4_isLead 82 = .ok (.aload_n 0, 1) := by decide +kernel
theorem dX4_isLead_83 : decode cX4_isLead 83 = .ok (.getfield 19, 3) := by decide +kernel
theorem dX4_isLead_86 : decode cX4_isLead 86 = .ok (.iload_n 1, 1) := by decide +kernel
theorem dX4_isLead_87 : decode cX4_isLead 87 = .ok (.iload 9, 2) := by decide +kernel
theorem dX4_isLead_89 : decode cX4_isLead 89 = .ok (.iload 10, 2) := by decide +kernel
theorem dX4_isLead_91 : decode cX4_isLead 91 = .ok (.invokestatic 114, 3) := by decide +kernel
theorem dX4_isLead_94 : decode cX4_isLead 94 = .ok (.aload_n 0, 1) := by decide +kernel
theorem dX4_isLead_95 : decode cX4_isLead 95 = .ok (.getfield 26, 3) := by decide +kernel
theorem dX4_isLead_98 : decode cX4_isLead 98 = .ok (.iload 8, 2) := by decide +kernel
theorem dX4_isLead_100 : decode cX4_isLead 100 = .ok (.iaload, 1) := by decide +kernel
theorem dX4_isLead_101 : decode cX4_isLead 101 = .ok (.if_icmp .eq 5, 3) := by decide +kernel
theorem dX4_isLead_104 : decode cX4_isLead 104 = .ok (.iconst 0, 1) := by decide +kernel
theorem dX4_isLead_105 : decode cX4_isLead 105 = .ok (.ireturn, 1) := by decide +kernel
theorem dX4_isLead_106 : decode cX4_isLead 106 = .ok (.iinc 8 1, 3) := by decide +kernel
theorem dX4_isLead_109 : decode cX4_isLead 109 = .ok (.goto (-59), 3) := by decide +kernel
theorem dX4_isLead_112 : decode cX4_isLead 112 = .ok (.iconst 1, 1) := by decide +kernel
theorem dX4_isLead_113 : decode cX4_isLead 113 = .ok (.ireturn, 1) := by decide +kernel
theorem dX4_countWays_0 : decode cX4_countWays 0 = .ok (.iconst 0, 1) := by decide +kernel
theorem dX4_countWays_1 : decode cX4_countWays 1 = .ok (.istore 4, 2) := by decide +kernel
theorem dX4_countWays_3 : decode cX4_countWays 3 = .ok (.iload 4, 2) := by decide +kernel
theorem dX4_countWays_5 : decode cX4_countWays 5 = .ok (.iload_n 2, 1) := by decide +kernel
theorem dX4_countWays_6 : decode cX4_countWays 6 = .ok (.if_icmp .gt 47, 3) := by decide +kernel
theorem dX4_countWays_9 : decode cX4_countWays 9 = .ok (.iconst 0, 1) := by decide +kernel
theorem dX4_countWays_10 : decode cX4_countWays 10 = .ok (.istore 5, 2) := by decide +kernel
theorem dX4_countWays_12 : decode cX4_countWays 12 = .ok (.iload 5, 2) := by decide +kernel
theorem dX4_countWays_14 : decode cX4_countWays 14 = .ok (.iload_n 3, 1) := by decide +kernel
theorem dX4_countWays_15 : decode cX4_countWays 15 = .ok (.if_icmp .gt 32, 3) := by decide +kernel
theorem dX4_countWays_18 : decode cX4_countWays 18 = .ok (.aload_n 0, 1) := by decide +kernel
theorem dX4_countWays_19 : decode cX4_countWays 19 = .ok (.getfield 42, 3) := by decide +kernel
theorem dX4_countWays_22 : decode cX4_countWays 22 = .ok (.iload 4, 2) := by decide +kernel
theorem dX4_countWays_24 : decode cX4_countWays 24 = .ok (.bipush 33, 2) := by decide +kernel
theorem dX4_countWays_26 : decode cX4_countWays 26 = .ok (.imul, 1) := by decide +kernel
theorem dX4_countWays_27 : decode cX4_countWays 27 = .ok (.iload 5, 2) := by decide +kernel
theorem dX4_countWays_29 : decode cX4_countWays 29 = .ok (.iadd, 1) := by decide +kernel
theorem dX4_countWays_30 : decode cX4_countWays 30 = .ok (.iload 5, 2) := by decide +kernel
theorem dX4_countWays_32 : decode cX4_countWays 32 = .ok (.ifCond .ne 7, 3) := by decide +kernel
theorem dX4_countWays_35 : decode cX4_countWays 35 = .ok (.iconst 1, 1) := by decide +kernel
theorem dX4_countWays_36 : decode cX4_countWays 36 = .ok (.goto 4, 3) := by decide +kernel
theorem dX4_countWays_39 : decode cX4_countWays 39 = .ok (.iconst 0, 1) := by decide +kernel
theorem dX4_countWays_40 : decode cX4_countWays 40 = .ok (.iastore, 1) := by decide +kernel
theorem dX4_countWays_41 : decode cX4_countWays 41 = .ok (.iinc 5 1, 3) := by decide +kernel
theorem dX4_countWays_44 : decode cX4_countWays 44 = .ok (.goto (-32), 3) := by decide +kernel
theorem dX4_countWays_47 : decode cX4_countWays 47 = .ok (.iinc 4 1, 3) := by decide +kernel
theorem dX4_countWays_50 : decode cX4_countWays 50 = .ok (.goto (-47), 3) := by decide +kernel
theorem dX4_countWays_53 : decode cX4_countWays 53 = .ok (.iconst 1, 1) := by decide +kernel
theorem dX4_countWays_54 : decode cX4_countWays 54 = .ok (.istore 4, 2) := by decide +kernel
theorem dX4_countWays_56 : decode cX4_countWays 56 = .ok (.iload 4, 2) := by decide +kernel
theorem dX4_countWays_58 : decode cX4_countWays 58 = .ok (.iload_n 1, 1) := by decide +kernel
theorem dX4_countWays_59 : decode cX4_countWays 59 = .ok (.if_icmp .gt 74, 3) := by decide +kernel
theorem dX4_countWays_62 : decode cX4_countWays 62 = .ok (.iconst 1, 1) := by decide +kernel
theorem dX4_countWays_63 : decode cX4_countWays 63 = .ok (.istore 5, 2) := by decide +kernel
theorem dX4_countWays_65 : decode cX4_countWays 65 = .ok (.iload 5, 2) := by decide +kernel
theorem dX4_countWays_67 : decode cX4_countWays 67 = .ok (.iload_n 2, 1) := by decide +kernel
theorem dX4_countWays_68 : decode cX4_countWays 68 = .ok (.if_icmp .gt 59, 3) := by decide +kernel
theorem dX4_countWays_71 : decode cX4_countWays 71 = .ok (.iload 4, 2) := by decide +kernel
theorem dX4_countWays_73 : decode cX4_countWays 73 = .ok (.istore 6, 2) := by decide +kernel
theorem dX4_countWays_75 : decode cX4_countWays 75 = .ok (.iload 6, 2) := by decide +kernel
theorem dX4_countWays_77 : decode cX4_countWays 77 = .ok (.iload_n 3, 1) := by decide +kernel
theorem dX4_countWays_78 : decode cX4_countWays 78 = .ok (.if_icmp .gt 43, 3) := by decide +kernel
theorem dX4_countWays_81 : decode cX4_countWays 81 = .ok (.aload_n 0, 1) := by decide +kernel
theorem dX4_countWays_82 : decode cX4_countWays 82 = .ok (.getfield 42, 3) := by decide +kernel
theorem dX4_countWays_85 : decode cX4_countWays 85 = .ok (.iload 5, 2) := by decide +kernel
theorem dX4_countWays_87 : decode cX4_countWays 87 = .ok (.bipush 33, 2) := by decide +kernel
theorem dX4_countWays_89 : decode cX4_countWays 89 = .ok (.imul, 1) := by decide +kernel
theorem dX4_countWays_90 : decode cX4_countWays 90 = .ok (.iload 6, 2) := by decide +kernel
theorem dX4_countWays_92 : decode cX4_countWays 92 = .ok (.iadd, 1) := by decide +kernel
theorem dX4_countWays_93 : decode cX4_countWays 93 = .ok (.dup2, 1) := by decide +kernel
theorem dX4_countWays_94 : decode cX4_countWays 94 = .ok (.iaload, 1) := by decide +kernel
theorem dX4_countWays_95 : decode cX4_countWays 95 = .ok (.aload_n 0, 1) := by decide +kernel
theorem dX4_countWays_96 : decode cX4_countWays 96 = .ok (.getfield 42, 3) := by decide +kernel
theorem dX4_countWays_99 : decode cX4_countWays 99 = .ok (.iload 5, 2) := by decide +kernel
theorem dX4_countWays_101 : decode cX4_countWays 101 = .ok (.iconst 1, 1) := by decide +kernel
theorem dX4_countWays_102 : decode cX4_countWays 102 = .ok (.isub, 1) := by decide +kernel
theorem dX4_countWays_103 : decode cX4_countWays 103 = .ok (.bipush 33, 2) := by decide +kernel
theorem dX4_countWays_105 : decode cX4_countWays 105 = .ok (.imul, 1) := by decide +kernel
theorem dX4_countWays_106 : decode cX4_countWays 106 = .ok (.iload 6, 2) := by decide +kernel
theorem dX4_countWays_108 : decode cX4_countWays 108 = .ok (.iadd, 1) := by decide +kernel
theorem dX4_countWays_109 : decode cX4_countWays 109 = .ok (.iload 4, 2) := by decide +kernel
theorem dX4_countWays_111 : decode cX4_countWays 111 = .ok (.isub, 1) := by decide +kernel
theorem dX4_countWays_112 : decode cX4_countWays 112 = .ok (.iaload, 1) := by decide +kernel
theorem dX4_countWays_113 : decode cX4_countWays 113 = .ok (.iadd, 1) := by decide +kernel
theorem dX4_countWays_114 : decode cX4_countWays 114 = .ok (.iastore, 1) := by decide +kernel
theorem dX4_countWays_115 : decode cX4_countWays 115 = .ok (.iinc 6 1, 3) := by decide +kernel
theorem dX4_countWays_118 : decode cX4_countWays 118 = .ok (.goto (-43), 3) := by decide +kernel
theorem dX4_countWays_121 : decode cX4_countWays 121 = .ok (.iinc 5 1, 3) := by decide +kernel
theorem dX4_countWays_124 : decode cX4_countWays 124 = .ok (.goto (-59), 3) := by decide +kernel
theorem dX4_countWays_127 : decode cX4_countWays 127 = .ok (.iinc 4 1, 3) := by decide +kernel
theorem dX4_countWays_130 : decode cX4_countWays 130 = .ok (.goto (-74), 3) := by decide +kernel
theorem dX4_countWays_133 : decode cX4_countWays 133 = .ok (.return_, 1) := by decide +kernel
