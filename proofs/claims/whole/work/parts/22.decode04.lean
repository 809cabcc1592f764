theorem d_Rf_settle_0 : decode b_Rf_settle 0 = .ok (.aload_n 0, 1) := by decide +kernel
theorem d_Rf_settle_1 : decode b_Rf_settle 1 = .ok (.iload_n 1, 1) := by decide +kernel
theorem d_Rf_settle_2 : decode b_Rf_settle 2 = .ok (.ifCond .lt 30, 3) := by decide +kernel
theorem d_Rf_settle_5 : decode b_Rf_settle 5 = .ok (.aload_n 0, 1) := by decide +kernel
theorem d_Rf_settle_6 : decode b_Rf_settle 6 = .ok (.getfield 78, 3) := by decide +kernel
theorem d_Rf_settle_9 : decode b_Rf_settle 9 = .ok (.ifCond .lt 11, 3) := by decide +kernel
theorem d_Rf_settle_12 : decode b_Rf_settle 12 = .ok (.iload_n 1, 1) := by decide +kernel
theorem d_Rf_settle_13 : decode b_Rf_settle 13 = .ok (.aload_n 0, 1) := by decide +kernel
theorem d_Rf_settle_14 : decode b_Rf_settle 14 = .ok (.getfield 141, 3) := by decide +kernel
theorem d_Rf_settle_17 : decode b_Rf_settle 17 = .ok (.if_icmp .ge 15, 3) := by decide +kernel
theorem d_Rf_settle_20 : decode b_Rf_settle 20 = .ok (.iload_n 2, 1) := by decide +kernel
theorem d_Rf_settle_21 : decode b_Rf_settle 21 = .ok (.iconst 2, 1) := by decide +kernel
theorem d_Rf_settle_22 : decode b_Rf_settle 22 = .ok (.invokestatic 101, 3) := by decide +kernel
theorem d_Rf_settle_25 : decode b_Rf_settle 25 = .ok (.ifCond .eq 7, 3) := by decide +kernel
theorem d_Rf_settle_28 : decode b_Rf_settle 28 = .ok (.iconst 1, 1) := by decide +kernel
theorem d_Rf_settle_29 : decode b_Rf_settle 29 = .ok (.goto 4, 3) := by decide +kernel
theorem d_Rf_settle_32 : decode b_Rf_settle 32 = .ok (.iconst 0, 1) := by decide +kernel
theorem d_Rf_settle_33 : decode b_Rf_settle 33 = .ok (.aload_n 0, 1) := by decide +kernel
theorem d_Rf_settle_34 : decode b_Rf_settle 34 = .ok (.getfield 78, 3) := by decide +kernel
theorem d_Rf_settle_37 : decode b_Rf_settle 37 = .ok (.ifCond .lt 7, 3) := by decide +kernel
theorem d_Rf_settle_40 : decode b_Rf_settle 40 = .ok (.iconst 1, 1) := by decide +kernel
theorem d_Rf_settle_41 : decode b_Rf_settle 41 = .ok (.goto 4, 3) := by decide +kernel
theorem d_Rf_settle_44 : decode b_Rf_settle 44 = .ok (.iconst 0, 1) := by decide +kernel
theorem d_Rf_settle_45 : decode b_Rf_settle 45 = .ok (.invokevirtual 108, 3) := by decide +kernel
theorem d_Rf_settle_48 : decode b_Rf_settle 48 = .ok (.ifCond .ne 5, 3) := by decide +kernel
theorem d_Rf_settle_51 : decode b_Rf_settle 51 = .ok (.iconst 0, 1) := by decide +kernel
theorem d_Rf_settle_52 : decode b_Rf_settle 52 = .ok (.ireturn, 1) := by decide +kernel
theorem d_Rf_settle_53 : decode b_Rf_settle 53 = .ok (.aload_n 0, 1) := by decide +kernel
theorem d_Rf_settle_54 : decode b_Rf_settle 54 = .ok (.getfield 87, 3) := by decide +kernel
theorem d_Rf_settle_57 : decode b_Rf_settle 57 = .ok (.iload_n 1, 1) := by decide +kernel
theorem d_Rf_settle_58 : decode b_Rf_settle 58 = .ok (.iload_n 2, 1) := by decide +kernel
theorem d_Rf_settle_59 : decode b_Rf_settle 59 = .ok (.iastore, 1) := by decide +kernel
theorem d_Rf_settle_60 : decode b_Rf_settle 60 = .ok (.iconst 0, 1) := by decide +kernel
theorem d_Rf_settle_61 : decode b_Rf_settle 61 = .ok (.istore_n 3, 1) := by decide +kernel
theorem d_Rf_settle_62 : decode b_Rf_settle 62 = .ok (.iconst 0, 1) := by decide +kernel
theorem d_Rf_settle_63 : decode b_Rf_settle 63 = .ok (.istore 4, 2) := by decide +kernel
theorem d_Rf_settle_65 : decode b_Rf_settle 65 = .ok (.iload 4, 2) := by decide +kernel
theorem d_Rf_settle_67 : decode b_Rf_settle 67 = .ok (.aload_n 0, 1) := by decide +kernel
theorem d_Rf_settle_68 : decode b_Rf_settle 68 = .ok (.getfield 141, 3) := by decide +kernel
theorem d_Rf_settle_71 : decode b_Rf_settle 71 = .ok (.if_icmp .ge 27, 3) := by decide +kernel
theorem d_Rf_settle_74 : decode b_Rf_settle 74 = .ok (.iload_n 3, 1) := by decide +kernel
theorem d_Rf_settle_75 : decode b_Rf_settle 75 = .ok (.aload_n 0, 1) := by decide +kernel
theorem d_Rf_settle_76 : decode b_Rf_settle 76 = .ok (.getfield 87, 3) := by decide +kernel
theorem d_Rf_settle_79 : decode b_Rf_settle 79 = .ok (.iload 4, 2) := by decide +kernel
theorem d_Rf_settle_81 : decode b_Rf_settle 81 = .ok (.iaload, 1) := by decide +kernel
theorem d_Rf_settle_82 : decode b_Rf_settle 82 = .ok (.ifCond .ge 7, 3) := by decide +kernel
theorem d_Rf_settle_85 : decode b_Rf_settle 85 = .ok (.iconst 1, 1) := by decide +kernel
theorem d_Rf_settle_86 : decode b_Rf_settle 86 = .ok (.goto 4, 3) := by decide +kernel
theorem d_Rf_settle_89 : decode b_Rf_settle 89 = .ok (.iconst 0, 1) := by decide +kernel
theorem d_Rf_settle_90 : decode b_Rf_settle 90 = .ok (.iadd, 1) := by decide +kernel
theorem d_Rf_settle_91 : decode b_Rf_settle 91 = .ok (.istore_n 3, 1) := by decide +kernel
theorem d_Rf_settle_92 : decode b_Rf_settle 92 = .ok (.iinc 4 1, 3) := by decide +kernel
theorem d_Rf_settle_95 : decode b_Rf_settle 95 = .ok (.goto (-30), 3) := by decide +kernel
theorem d_Rf_settle_98 : decode b_Rf_settle 98 = .ok (.iload_n 3, 1) := by decide +kernel
theorem d_Rf_settle_99 : decode b_Rf_settle 99 = .ok (.ifCond .ne 11, 3) := by decide +kernel
theorem d_Rf_settle_102 : decode b_Rf_settle 102 = .ok (.aload_n 0, 1) := by decide +kernel
theorem d_Rf_settle_103 : decode b_Rf_settle 103 = .ok (.aload_n 0, 1) := by decide +kernel
theorem d_Rf_settle_104 : decode b_Rf_settle 104 = .ok (.getfield 78, 3) := by decide +kernel
theorem d_Rf_settle_107 : decode b_Rf_settle 107 = .ok (.invokevirtual 158, 3) := by decide +kernel
theorem d_Rf_settle_110 : decode b_Rf_settle 110 = .ok (.iload_n 3, 1) := by decide +kernel
theorem d_Rf_settle_111 : decode b_Rf_settle 111 = .ok (.ireturn, 1) := by decide +kernel
theorem d_Rf_giveUp_0 : decode b_Rf_giveUp 0 = .ok (.aload_n 0, 1) := by decide +kernel
theorem d_Rf_giveUp_1 : decode b_Rf_giveUp 1 = .ok (.aload_n 0, 1) := by decide +kernel
theorem d_Rf_giveUp_2 : decode b_Rf_giveUp 2 = .ok (.getfield 78, 3) := by decide +kernel
theorem d_Rf_giveUp_5 : decode b_Rf_giveUp 5 = .ok (.ifCond .ge 7, 3) := by decide +kernel
theorem d_Rf_giveUp_8 : decode b_Rf_giveUp 8 = .ok (.iconst 1, 1) := by decide +kernel
theorem d_Rf_giveUp_9 : decode b_Rf_giveUp 9 = .ok (.goto 4, 3) := by decide +kernel
theorem d_Rf_giveUp_12 : decode b_Rf_giveUp 12 = .ok (.iconst 0, 1) := by decide +kernel
theorem d_Rf_giveUp_13 : decode b_Rf_giveUp 13 = .ok (.putfield 90, 3) := by decide +kernel
theorem d_Rf_giveUp_16 : decode b_Rf_giveUp 16 = .ok (.aload_n 0, 1) := by decide +kernel
theorem d_Rf_giveUp_17 : decode b_Rf_giveUp 17 = .ok (.getfield 90, 3) := by decide +kernel
theorem d_Rf_giveUp_20 : decode b_Rf_giveUp 20 = .ok (.ifCond .le 5, 3) := by decide +kernel
theorem d_Rf_giveUp_23 : decode b_Rf_giveUp 23 = .ok (.iconst 0, 1) := by decide +kernel
theorem d_Rf_giveUp_24 : decode b_Rf_giveUp 24 = .ok (.ireturn, 1) := by decide +kernel
theorem d_Rf_giveUp_25 : decode b_Rf_giveUp 25 = .ok (.aload_n 0, 1) := by decide +kernel
theorem d_Rf_giveUp_26 : decode b_Rf_giveUp 26 = .ok (.getfield 78, 3) := by decide +kernel
theorem d_Rf_giveUp_29 : decode b_Rf_giveUp 29 = .ok (.istore_n 1, 1) := by decide +kernel
theorem d_Rf_giveUp_30 : decode b_Rf_giveUp 30 = .ok (.aload_n 0, 1) := by decide +kernel
theorem d_Rf_giveUp_31 : decode b_Rf_giveUp 31 = .ok (.getfield 45, 3) := by decide +kernel
theorem d_Rf_giveUp_34 : decode b_Rf_giveUp 34 = .ok (.iload_n 1, 1) := by decide +kernel
theorem d_Rf_giveUp_35 : decode b_Rf_giveUp 35 = .ok (.iconst 0, 1) := by decide +kernel
theorem d_Rf_giveUp_36 : decode b_Rf_giveUp 36 = .ok (.iastore, 1) := by decide +kernel
theorem d_Rf_giveUp_37 : decode b_Rf_giveUp 37 = .ok (.aload_n 0, 1) := by decide +kernel
theorem d_Rf_giveUp_38 : decode b_Rf_giveUp 38 = .ok (.iconst (-1), 1) := by decide +kernel
theorem d_Rf_giveUp_39 : decode b_Rf_giveUp 39 = .ok (.putfield 78, 3) := by decide +kernel
theorem d_Rf_giveUp_42 : decode b_Rf_giveUp 42 = .ok (.iload_n 1, 1) := by decide +kernel
theorem d_Rf_giveUp_43 : decode b_Rf_giveUp 43 = .ok (.ireturn, 1) := by decide +kernel
theorem d_Rf_here2_0 : decode b_Rf_here2 0 = .ok (.aload_n 0, 1) := by decide +kernel
theorem d_Rf_here2_1 : decode b_Rf_here2 1 = .ok (.iload_n 1, 1) := by decide +kernel
theorem d_Rf_here2_2 : decode b_Rf_here2 2 = .ok (.aload_n 0, 1) := by decide +kernel
theorem d_Rf_here2_3 : decode b_Rf_here2 3 = .ok (.getfield 105, 3) := by decide +kernel
theorem d_Rf_here2_6 : decode b_Rf_here2 6 = .ok (.invokestatic 101, 3) := by decide +kernel
theorem d_Rf_here2_9 : decode b_Rf_here2 9 = .ok (.ifCond .eq 18, 3) := by decide +kernel
theorem d_Rf_here2_12 : decode b_Rf_here2 12 = .ok (.iload_n 2, 1) := by decide +kernel
theorem d_Rf_here2_13 : decode b_Rf_here2 13 = .ok (.aload_n 0, 1) := by decide +kernel
theorem d_Rf_here2_14 : decode b_Rf_here2 14 = .ok (.getfield 116, 3) := by decide +kernel
theorem d_Rf_here2_17 : decode b_Rf_here2 17 = .ok (.invokestatic 101, 3) := by decide +kernel
theorem d_Rf_here2_20 : decode b_Rf_here2 20 = .ok (.ifCond .eq 7, 3) := by decide +kernel
theorem d_Rf_here2_23 : decode b_Rf_here2 23 = .ok (.iconst 1, 1) := by decide +kernel
theorem d_Rf_here2_24 : decode b_Rf_here2 24 = .ok (.goto 4, 3) := by decide +kernel
theorem d_Rf_here2_27 : decode b_Rf_here2 27 = .ok (.iconst 0, 1) := by decide +kernel
theorem d_Rf_here2_28 : decode b_Rf_here2 28 = .ok (.iconst 1, 1) := by decide +kernel
theorem d_Rf_here2_29 : decode b_Rf_here2 29 = .ok (.invokevirtual 108, 3) := by decide +kernel
theorem d_Rf_here2_32 : decode b_Rf_here2 32 = .ok (.ifCond .eq 16, 3) := by decide +kernel
theorem d_Rf_here2_35 : decode b_Rf_here2 35 = .ok (.aload_n 0, 1) := by decide +kernel
theorem d_Rf_here2_36 : decode b_Rf_here2 36 = .ok (.iload_n 1, 1) := by decide +kernel
theorem d_Rf_here2_37 : decode b_Rf_here2 37 = .ok (.iload_n 2, 1) := by decide +kernel
theorem d_Rf_here2_38 : decode b_Rf_here2 38 = .ok (.invokevirtual 123, 3) := by decide +kernel
theorem d_Rf_here2_41 : decode b_Rf_here2 41 = .ok (.ifCond .eq 7, 3) := by decide +kernel
theorem d_Rf_here2_44 : decode b_Rf_here2 44 = .ok (.iconst 1, 1) := by decide +kernel
theorem d_Rf_here2_45 : decode b_Rf_here2 45 = .ok (.goto 4, 3) := by decide +kernel
theorem d_Rf_here2_48 : decode b_Rf_here2 48 = .ok (.iconst 0, 1) := by decide +kernel
theorem d_Rf_here2_49 : decode b_Rf_here2 49 = .ok (.ireturn, 1) := by decide +kernel
theorem d_Rf_now_0 : decode b_Rf_now 0 = .ok (.iload_n 1, 1) := by decide +kernel
theorem d_Rf_now_1 : decode b_Rf_now 1 = .ok (.aload_n 0, 1) := by decide +kernel
theorem d_Rf_now_2 : decode b_Rf_now 2 = .ok (.getfield 105, 3) := by decide +kernel
theorem d_Rf_now_5 : decode b_Rf_now 5 = .ok (.invokestatic 101, 3) := by decide +kernel
theorem d_Rf_now_8 : decode b_Rf_now 8 = .ok (.ifCond .eq 26, 3) := by decide +kernel
theorem d_Rf_now_11 : decode b_Rf_now 11 = .ok (.iload_n 2, 1) := by decide +kernel
theorem d_Rf_now_12 : decode b_Rf_now 12 = .ok (.aload_n 0, 1) := by decide +kernel
theorem d_Rf_now_13 : decode b_Rf_now 13 = .ok (.getfield 116, 3) := by decide +kernel
theorem d_Rf_now_16 : decode b_Rf_now 16 = .ok (.invokestatic 101, 3) := by decide +kernel
theorem d_Rf_now_19 : decode b_Rf_now 19 = .ok (.ifCond .eq 15, 3) := by decide +kernel
theorem d_Rf_now_22 : decode b_Rf_now 22 = .ok (.iload_n 3, 1) := by decide +kernel
theorem d_Rf_now_23 : decode b_Rf_now 23 = .ok (.iconst 5, 1) := by decide +kernel
theorem d_Rf_now_24 : decode b_Rf_now 24 = .ok (.invokestatic 101, 3) := by decide +kernel
theorem d_Rf_now_27 : decode b_Rf_now 27 = .ok (.ifCond .eq 7, 3) := by decide +kernel
theorem d_Rf_now_30 : decode b_Rf_now 30 = .ok (.iconst 1, 1) := by decide +kernel
theorem d_Rf_now_31 : decode b_Rf_now 31 = .ok (.goto 4, 3) := by decide +kernel
theorem d_Rf_now_34 : decode b_Rf_now 34 = .ok (.iconst 0, 1) := by decide +kernel
theorem d_Rf_now_35 : decode b_Rf_now 35 = .ok (.istore 4, 2) := by decide +kernel
theorem d_Rf_now_37 : decode b_Rf_now 37 = .ok (.aload_n 0, 1) := by decide +kernel
theorem d_Rf_now_38 : decode b_Rf_now 38 = .ok (.iload 4, 2) := by decide +kernel
theorem d_Rf_now_40 : decode b_Rf_now 40 = .ok (.ifCond .eq 16, 3) := by decide +kernel
theorem d_Rf_now_43 : decode b_Rf_now 43 = .ok (.aload_n 0, 1) := by decide +kernel
theorem d_Rf_now_44 : decode b_Rf_now 44 = .ok (.iload_n 1, 1) := by decide +kernel
theorem d_Rf_now_45 : decode b_Rf_now 45 = .ok (.iload_n 2, 1) := by decide +kernel
theorem d_Rf_now_46 : decode b_Rf_now 46 = .ok (.invokevirtual 123, 3) := by decide +kernel
theorem d_Rf_now_49 : decode b_Rf_now 49 = .ok (.ifCond .eq 7, 3) := by decide +kernel
theorem d_Rf_now_52 : decode b_Rf_now 52 = .ok (.iconst 1, 1) := by decide +kernel
theorem d_Rf_now_53 : decode b_Rf_now 53 = .ok (.goto 4, 3) := by decide +kernel
theorem d_Rf_now_56 : decode b_Rf_now 56 = .ok (.iconst 0, 1) := by decide +kernel
theorem d_Rf_now_57 : decode b_Rf_now 57 = .ok (.iconst 1, 1) := by decide +kernel
theorem d_Rf_now_58 : decode b_Rf_now 58 = .ok (.invokevirtual 108, 3) := by decide +kernel
theorem d_Rf_now_61 : decode b_Rf_now 61 = .ok (.ifCond .eq 13, 3) := by decide +kernel
theorem d_Rf_now_64 : decode b_Rf_now 64 = .ok (.aload_n 0, 1) := by decide +kernel
theorem d_Rf_now_65 : decode b_Rf_now 65 = .ok (.iload_n 1, 1) := by decide +kernel
theorem d_Rf_now_66 : decode b_Rf_now 66 = .ok (.iload_n 2, 1) := by decide +kernel
theorem d_Rf_now_67 : decode b_Rf_now 67 = .ok (.iload_n 3, 1) := by decide +kernel
theorem d_Rf_now_68 : decode b_Rf_now 68 = .ok (.invokevirtual 137, 3) := by decide +kernel
theorem d_Rf_now_71 : decode b_Rf_now 71 = .ok (.goto 4, 3) := by decide +kernel
theorem d_Rf_now_74 : decode b_Rf_now 74 = .ok (.iconst 0, 1) := by decide +kernel
theorem d_Rf_now_75 : decode b_Rf_now 75 = .ok (.ireturn, 1) := by decide +kernel
theorem d_Rf_isThere_0 : decode b_Rf_isThere 0 = .ok (.iload_n 1, 1) := by decide +kernel
theorem d_Rf_isThere_1 : decode b_Rf_isThere 1 = .ok (.aload_n 0, 1) := by decide +kernel
theorem d_Rf_isThere_2 : decode b_Rf_isThere 2 = .ok (.getfield 16, 3) := by decide +kernel
theorem d_Rf_isThere_5 : decode b_Rf_isThere 5 = .ok (.invokestatic 101, 3) := by decide +kernel
theorem d_Rf_isThere_8 : decode b_Rf_isThere 8 = .ok (.ifCond .eq 32, 3) := by decide +kernel
theorem d_Rf_isThere_11 : decode b_Rf_isThere 11 = .ok (.iload_n 2, 1) := by decide +kernel
theorem d_Rf_isThere_12 : decode b_Rf_isThere 12 = .ok (.aload_n 0, 1) := by decide +kernel
theorem d_Rf_isThere_13 : decode b_Rf_isThere 13 = .ok (.getfield 116, 3) := by decide +kernel
theorem d_Rf_isThere_16 : decode b_Rf_isThere 16 = .ok (.invokestatic 101, 3) := by decide +kernel
theorem d_Rf_isThere_19 : decode b_Rf_isThere 19 = .ok (.ifCond .eq 21, 3) := by decide +kernel
theorem d_Rf_isThere_22 : decode b_Rf_isThere 22 = .ok (.aload_n 0, 1) := by decide +kernel
theorem d_Rf_isThere_23 : decode b_Rf_isThere 23 = .ok (.getfield 20, 3) := by decide +kernel
theorem d_Rf_isThere_26 : decode b_Rf_isThere 26 = .ok (.bipush 60, 2) := by decide +kernel
theorem d_Rf_isThere_28 : decode b_Rf_isThere 28 = .ok (.iload_n 1, 1) := by decide +kernel
theorem d_Rf_isThere_29 : decode b_Rf_isThere 29 = .ok (.imul, 1) := by decide +kernel
theorem d_Rf_isThere_30 : decode b_Rf_isThere 30 = .ok (.iload_n 2, 1) := by decide +kernel
theorem d_Rf_isThere_31 : decode b_Rf_isThere 31 = .ok (.iadd, 1) := by decide +kernel
theorem d_Rf_isThere_32 : decode b_Rf_isThere 32 = .ok (.baload, 1) := by decide +kernel
theorem d_Rf_isThere_33 : decode b_Rf_isThere 33 = .ok (.ifCond .eq 7, 3) := by decide +kernel
theorem d_Rf_isThere_36 : decode b_Rf_isThere 36 = .ok (.iconst 1, 1) := by decide +kernel
theorem d_Rf_isThere_37 : decode b_Rf_isThere 37 = .ok (.goto 4, 3) := by decide +kernel
theorem d_Rf_isThere_40 : decode b_Rf_isThere 40 = .ok (.iconst 0, 1) := by decide +kernel
theorem d_Rf_isThere_41 : decode b_Rf_isThere 41 = .ok (.ireturn, 1) := by decide +kernel
theorem d_Rf_there_0 : decode b_Rf_there 0 = .ok (.aload_n 0, 1) := by decide +kernel
theorem d_Rf_there_1 : decode b_Rf_there 1 = .ok (.iload_n 1, 1) := by decide +kernel
theorem d_Rf_there_2 : decode b_Rf_there 2 = .ok (.aload_n 0, 1) := by decide +kernel
theorem d_Rf_there_3 : decode b_Rf_there 3 = .ok (.getfield 16, 3) := by decide +kernel
theorem d_Rf_there_6 : decode b_Rf_there 6 = .ok (.invokestatic 101, 3) := by decide +kernel
theorem d_Rf_there_9 : decode b_Rf_there 9 = .ok (.ifCond .eq 26, 3) := by decide +kernel
theorem d_Rf_there_12 : decode b_Rf_there 12 = .ok (.iload_n 2, 1) := by decide +kernel
theorem d_Rf_there_13 : decode b_Rf_there 13 = .ok (.aload_n 0, 1) := by decide +kernel
theorem d_Rf_there_14 : decode b_Rf_there 14 = .ok (.getfield 116, 3) := by decide +kernel
theorem d_Rf_there_17 : decode b_Rf_there 17 = .ok (.invokestatic 101, 3) := by decide +kernel
theorem d_Rf_there_20 : decode b_Rf_there 20 = .ok (.ifCond .eq 15, 3) := by decide +kernel
theorem d_Rf_there_23 : decode b_Rf_there 23 = .ok (.iload_n 3, 1) := by decide +kernel
theorem d_Rf_there_24 : decode b_Rf_there 24 = .ok (.iconst 3, 1) := by decide +kernel
theorem d_Rf_there_25 : decode b_Rf_there 25 = .ok (.invokestatic 101, 3) := by decide +kernel
theorem d_Rf_there_28 : decode b_Rf_there 28 = .ok (.ifCond .eq 7, 3) := by decide +kernel
theorem d_Rf_there_31 : decode b_Rf_there 31 = .ok (.iconst 1, 1) := by decide +kernel
theorem d_Rf_there_32 : decode b_Rf_there 32 = .ok (.goto 4, 3) := by decide +kernel
theorem d_Rf_there_35 : decode b_Rf_there 35 = .ok (.iconst 0, 1) := by decide +kernel
theorem d_Rf_there_36 : decode b_Rf_there 36 = .ok (.iconst 1, 1) := by decide +kernel
theorem d_Rf_there_37 : decode b_Rf_there 37 = .ok (.invokevirtual 108, 3) := by decide +kernel
theorem d_Rf_there_40 : decode b_Rf_there 40 = .ok (.ifCond .ne 5, 3) := by decide +kernel
theorem d_Rf_there_43 : decode b_Rf_there 43 = .ok (.iconst 0, 1) := by decide +kernel
theorem d_Rf_there_44 : decode b_Rf_there 44 = .ok (.ireturn, 1) := by decide +kernel
theorem d_Rf_there_45 : decode b_Rf_there 45 = .ok (.iload_n 3, 1) := by decide +kernel
theorem d_Rf_there_46 : decode b_Rf_there 46 = .ok (.iconst 2, 1) := by decide +kernel
theorem d_Rf_there_47 : decode b_Rf_there 47 = .ok (.if_icmp .ge 32, 3) := by decide +kernel
theorem d_Rf_there_50 : decode b_Rf_there 50 = .ok (.iload_n 3, 1) := by decide +kernel
theorem d_Rf_there_51 : decode b_Rf_there 51 = .ok (.iconst 1, 1) := by decide +kernel
theorem d_Rf_there_52 : decode b_Rf_there 52 = .ok (.if_icmp .ne 12, 3) := by decide +kernel
theorem d_Rf_there_55 : decode b_Rf_there 55 = .ok (.aload_n 0, 1) := by decide +kernel
theorem d_Rf_there_56 : decode b_Rf_there 56 = .ok (.getfield 7, 3) := by decide +kernel
theorem d_Rf_there_59 : decode b_Rf_there 59 = .ok (.iload_n 2, 1) := by decide +kernel
theorem d_Rf_there_60 : decode b_Rf_there 60 = .ok (.iaload, 1) := by decide +kernel
theorem d_Rf_there_61 : decode b_Rf_there 61 = .ok (.goto 17, 3) := by decide +kernel
theorem d_Rf_there_64 : decode b_Rf_there 64 = .ok (.aload_n 0, 1) := by decide +kernel
theorem d_Rf_there_65 : decode b_Rf_there 65 = .ok (.iload_n 1, 1) := by decide +kernel
theorem d_Rf_there_66 : decode b_Rf_there 66 = .ok (.iload_n 2, 1) := by decide +kernel
theorem d_Rf_there_67 : decode b_Rf_there 67 = .ok (.invokevirtual 162, 3) := by decide +kernel
theorem d_Rf_there_70 : decode b_Rf_there 70 = .ok (.ifCond .eq 7, 3) := by decide +kernel
theorem d_Rf_there_73 : decode b_Rf_there 73 = .ok (.iconst 1, 1) := by decide +kernel
theorem d_Rf_there_74 : decode b_Rf_there 74 = .ok (.goto 4, 3) := by decide +kernel
theorem d_Rf_there_77 : decode b_Rf_there 77 = .ok (.iconst 0, 1) := by decide +kernel
theorem d_Rf_there_78 : decode b_Rf_there 78 = .ok (.ireturn, 1) := by decide +kernel
theorem d_Rf_there_79 : decode b_Rf_there 79 = .ok (.iconst 0, 1) := by decide +kernel
theorem d_Rf_there_80 : decode b_Rf_there 80 = .ok (.istore 4, 2) := by decide +kernel
theorem d_Rf_there_82 : decode b_Rf_there 82 = .ok (.iconst 0, 1) := by decide +kernel
theorem d_Rf_there_83 : decode b_Rf_there 83 = .ok (.istore 5, 2) := by decide +kernel
theorem d_Rf_there_85 : decode b_Rf_there 85 = .ok (.iload 5, 2) := by decide +kernel
theorem d_Rf_there_87 : decode b_Rf_there 87 = .ok (.iconst 5, 1) := by decide +kernel
theorem d_Rf_there_88 : decode b_Rf_there 88 = .ok (.if_icmp .ge 89, 3) := by decide +kernel
theorem d_Rf_there_91 : decode b_Rf_there 91 = .ok (.aload_n 0, 1) := by decide +kernel
theorem d_Rf_there_92 : decode b_Rf_there 92 = .ok (.iload_n 1, 1) := by decide +kernel
theorem d_Rf_there_93 : decode b_Rf_there 93 = .ok (.iload_n 2, 1) := by decide +kernel
theorem d_Rf_there_94 : decode b_Rf_there 94 = .ok (.invokevirtual 162, 3) := by decide +kernel
theorem d_Rf_there_97 : decode b_Rf_there 97 = .ok (.ifCond .eq 80, 3) := by decide +kernel
theorem d_Rf_there_100 : decode b_Rf_there 100 = .ok (.aload_n 0, 1) := by decide +kernel
theorem d_Rf_there_101 : decode b_Rf_there 101 = .ok (.iload_n 1, 1) := by decide +kernel
theorem d_Rf_there_102 : decode b_Rf_there 102 = .ok (.iconst 1, 1) := by decide +kernel
theorem d_Rf_there_103 : decode b_Rf_there 103 = .ok (.isub, 1) := by decide +kernel
theorem d_Rf_there_104 : decode b_Rf_there 104 = .ok (.iload_n 2, 1) := by decide +kernel
theorem d_Rf_there_105 : decode b_Rf_there 105 = .ok (.invokevirtual 162, 3) := by decide +kernel
theorem d_Rf_there_108 : decode b_Rf_there 108 = .ok (.ifCond .eq 45, 3) := by decide +kernel
theorem d_Rf_there_111 : decode b_Rf_there 111 = .ok (.aload_n 0, 1) := by decide +kernel
theorem d_Rf_there_112 : decode b_Rf_there 112 = .ok (.getfield 24, 3) := by decide +kernel
theorem d_Rf_there_115 : decode b_Rf_there 115 = .ok (.iconst 5, 1) := by decide +kernel
theorem d_Rf_there_116 : decode b_Rf_there 116 = .ok (.bipush 60, 2) := by decide +kernel
theorem d_Rf_there_118 : decode b_Rf_there 118 = .ok (.iload_n 1, 1) := by decide +kernel
theorem d_Rf_there_119 : decode b_Rf_there 119 = .ok (.imul, 1) := by decide +kernel
theorem d_Rf_there_120 : decode b_Rf_there 120 = .ok (.bipush 60, 2) := by decide +kernel
theorem d_Rf_there_122 : decode b_Rf_there 122 = .ok (.isub, 1) := by decide +kernel
theorem d_Rf_there_123 : decode b_Rf_there 123 = .ok (.iload_n 2, 1) := by decide +kernel
theorem d_Rf_there_124 : decode b_Rf_there 124 = .ok (.iadd, 1) := by decide +kernel
theorem d_Rf_there_125 : decode b_Rf_there 125 = .ok (.imul, 1) := by decide +kernel
theorem d_Rf_there_126 : decode b_Rf_there 126 = .ok (.iload 5, 2) := by decide +kernel
theorem d_Rf_there_128 : decode b_Rf_there 128 = .ok (.iadd, 1) := by decide +kernel
theorem d_Rf_there_129 : decode b_Rf_there 129 = .ok (.iaload, 1) := by decide +kernel
theorem d_Rf_there_130 : decode b_Rf_there 130 = .ok (.aload_n 0, 1) := by decide +kernel
theorem d_Rf_there_131 : decode b_Rf_there 131 = .ok (.getfield 24, 3) := by decide +kernel
theorem d_Rf_there_134 : decode b_Rf_there 134 = .ok (.iconst 5, 1) := by decide +kernel
theorem d_Rf_there_135 : decode b_Rf_there 135 = .ok (.bipush 60, 2) := by decide +kernel
theorem d_Rf_there_137 : decode b_Rf_there 137 = .ok (.iload_n 1, 1) := by decide +kernel
theorem d_Rf_there_138 : decode b_Rf_there 138 = .ok (.imul, 1) := by decide +kernel
theorem d_Rf_there_139 : decode b_Rf_there 139 = .ok (.iload_n 2, 1) := by decide +kernel
theorem d_Rf_there_140 : decode b_Rf_there 140 = .ok (.iadd, 1) := by decide +kernel
theorem d_Rf_there_141 : decode b_Rf_there 141 = .ok (.imul, 1) := by decide +kernel
theorem d_Rf_there_142 : decode b_Rf_there 142 = .ok (.iload 5, 2) := by decide +kernel
theorem d_Rf_there_144 : decode b_Rf_there 144 = .ok (.iadd, 1) := by decide +kernel
theorem d_Rf_there_145 : decode b_Rf_there 145 = .ok (.iaload, 1) := by decide +kernel
theorem d_Rf_there_146 : decode b_Rf_there 146 = .ok (.if_icmp .ne 7, 3) := by decide +kernel
theorem d_Rf_there_149 : decode b_Rf_there 149 = .ok (.iconst 1, 1) := by decide +kernel
theorem d_Rf_there_150 : decode b_Rf_there 150 = .ok (.goto 4, 3) := by decide +kernel
theorem d_Rf_there_153 : decode b_Rf_there 153 = .ok (.iconst 0, 1) := by decide +kernel
theorem d_Rf_there_154 : decode b_Rf_there 154 = .ok (.istore 6, 2) := by decide +kernel
theorem d_Rf_there_156 : decode b_Rf_there 156 = .ok (.iload 4, 2) := by decide +kernel
theorem d_Rf_there_158 : decode b_Rf_there 158 = .ok (.iload 6, 2) := by decide +kernel
theorem d_Rf_there_160 : decode b_Rf_there 160 = .ok (.ifCond .eq 7, 3) := by decide +kernel
theorem d_Rf_there_163 : decode b_Rf_there 163 = .ok (.iconst 0, 1) := by decide +kernel
theorem d_Rf_there_164 : decode b_Rf_there 164 = .ok (.goto 4, 3) := by decide +kernel
theorem d_Rf_there_167 : decode b_Rf_there 167 = .ok (.iconst 1, 1) := by decide +kernel
theorem d_Rf_there_168 : decode b_Rf_there 168 = .ok (.iadd, 1) := by decide +kernel
theorem d_Rf_there_169 : decode b_Rf_there 169 = .ok (.istore 4, 2) := by decide +kernel
theorem d_Rf_there_171 : decode b_Rf_there 171 = .ok (.iinc 5 1, 3) := by decide +kernel
theorem d_Rf_there_174 : decode b_Rf_there 174 = .ok (.goto (-89), 3) := by decide +kernel
theorem d_Rf_there_177 : decode b_Rf_there 177 = .ok (.iload 4, 2) := by decide +kernel
theorem d_Rf_there_179 : decode b_Rf_there 179 = .ok (.ireturn, 1) := by decide +kernel
theorem d_Rf_at_0 : decode b_Rf_at 0 = .ok (.aload_n 0, 1) := by decide +kernel
theorem d_Rf_at_1 : decode b_Rf_at 1 = .ok (.aload_n 0, 1) := by decide +kernel
theorem d_Rf_at_2 : decode b_Rf_at 2 = .ok (.iload_n 1, 1) := by decide +kernel
theorem d_Rf_at_3 : decode b_Rf_at 3 = .ok (.iload_n 2, 1) := by decide +kernel
theorem d_Rf_at_4 : decode b_Rf_at 4 = .ok (.invokevirtual 162, 3) := by decide +kernel
theorem d_Rf_at_7 : decode b_Rf_at 7 = .ok (.ifCond .eq 15, 3) := by decide +kernel
theorem d_Rf_at_10 : decode b_Rf_at 10 = .ok (.iload_n 3, 1) := by decide +kernel
theorem d_Rf_at_11 : decode b_Rf_at 11 = .ok (.iconst 5, 1) := by decide +kernel
theorem d_Rf_at_12 : decode b_Rf_at 12 = .ok (.invokestatic 101, 3) := by decide +kernel
theorem d_Rf_at_15 : decode b_Rf_at 15 = .ok (.ifCond .eq 7, 3) := by decide +kernel
theorem d_Rf_at_18 : decode b_Rf_at 18 = .ok (.iconst 1, 1) := by decide +kernel
theorem d_Rf_at_19 : decode b_Rf_at 19 = .ok (.goto 4, 3) := by decide +kernel
theorem d_Rf_at_22 : decode b_Rf_at 22 = .ok (.iconst 0, 1) := by decide +kernel
theorem d_Rf_at_23 : decode b_Rf_at 23 = .ok (.iconst 1, 1) := by decide +kernel
theorem d_Rf_at_24 : decode b_Rf_at 24 = .ok (.invokevirtual 108, 3) := by decide +kernel
theorem d_Rf_at_27 : decode b_Rf_at 27 = .ok (.ifCond .eq 21, 3) := by decide +kernel
theorem d_Rf_at_30 : decode b_Rf_at 30 = .ok (.aload_n 0, 1) := by decide +kernel
theorem d_Rf_at_31 : decode b_Rf_at 31 = .ok (.getfield 24, 3) := by decide +kernel
theorem d_Rf_at_34 : decode b_Rf_at 34 = .ok (.iconst 5, 1) := by decide +kernel
theorem d_Rf_at_35 : decode b_Rf_at 35 = .ok (.bipush 60, 2) := by decide +kernel
theorem d_Rf_at_37 : decode b_Rf_at 37 = .ok (.iload_n 1, 1) := by decide +kernel
theorem d_Rf_at_38 : decode b_Rf_at 38 = .ok (.imul, 1) := by decide +kernel
theorem d_Rf_at_39 : decode b_Rf_at 39 = .ok (.iload_n 2, 1) := by decide +kernel
theorem d_Rf_at_40 : decode b_Rf_at 40 = .ok (.iadd, 1) := by decide +kernel
theorem d_Rf_at_41 : decode b_Rf_at 41 = .ok (.imul, 1) := by decide +kernel
theorem d_Rf_at_42 : decode b_Rf_at 42 = .ok (.iload_n 3, 1) := by decide +kernel
theorem d_Rf_at_43 : decode b_Rf_at 43 = .ok (.iadd, 1) := by decide +kernel
theorem d_Rf_at_44 : decode b_Rf_at 44 = .ok (.iaload, 1) := by decide +kernel
theorem d_Rf_at_45 : decode b_Rf_at 45 = .ok (.goto 4, 3) := by decide +kernel
theorem d_Rf_at_48 : decode b_Rf_at 48 = .ok (.iconst 0, 1) := by decide +kernel
theorem d_Rf_at_49 : decode b_Rf_at 49 = .ok (.ireturn, 1) := by decide +kernel
theorem d_Rf_since_0 : decode b_Rf_since 0 = .ok (.aload_n 0, 1) := by decide +kernel
theorem d_Rf_since_1 : decode b_Rf_since 1 = .ok (.aload_n 0, 1) := by decide +kernel
theorem d_Rf_since_2 : decode b_Rf_since 2 = .ok (.iload_n 1, 1) := by decide +kernel
theorem d_Rf_since_3 : decode b_Rf_since 3 = .ok (.iload_n 2, 1) := by decide +kernel
theorem d_Rf_since_4 : decode b_Rf_since 4 = .ok (.invokevirtual 162, 3) := by decide +kernel
theorem d_Rf_since_7 : decode b_Rf_since 7 = .ok (.ifCond .eq 15, 3) := by decide +kernel
theorem d_Rf_since_10 : decode b_Rf_since 10 = .ok (.iload_n 3, 1) := by decide +kernel
theorem d_Rf_since_11 : decode b_Rf_since 11 = .ok (.iconst 5, 1) := by decide +kernel
theorem d_Rf_since_12 : decode b_Rf_since 12 = .ok (.invokestatic 101, 3) := by decide +kernel
theorem d_Rf_since_15 : decode b_Rf_since 15 = .ok (.ifCond .eq 7, 3) := by decide +kernel
theorem d_Rf_since_18 : decode b_Rf_since 18 = .ok (.iconst 1, 1) := by decide +kernel
theorem d_Rf_since_19 : decode b_Rf_since 19 = .ok (.goto 4, 3) := by decide +kernel
theorem d_Rf_since_22 : decode b_Rf_since 22 = .ok (.iconst 0, 1) := by decide +kernel
theorem d_Rf_since_23 : decode b_Rf_since 23 = .ok (.iconst 1, 1) := by decide +kernel
theorem d_Rf_since_24 : decode b_Rf_since 24 = .ok (.invokevirtual 108, 3) := by decide +kernel
theorem d_Rf_since_27 : decode b_Rf_since 27 = .ok (.ifCond .eq 21, 3) := by decide +kernel
theorem d_Rf_since_30 : decode b_Rf_since 30 = .ok (.aload_n 0, 1) := by decide +kernel
theorem d_Rf_since_31 : decode b_Rf_since 31 = .ok (.getfield 27, 3) := by decide +kernel
theorem d_Rf_since_34 : decode b_Rf_since 34 = .ok (.iconst 5, 1) := by decide +kernel
theorem d_Rf_since_35 : decode b_Rf_since 35 = .ok (.bipush 60, 2) := by decide +kernel
theorem d_Rf_since_37 : decode b_Rf_since 37 = .ok (.iload_n 1, 1) := by decide +kernel
theorem d_Rf_since_38 : decode b_Rf_since 38 = .ok (.imul, 1) := by decide +kernel
theorem d_Rf_since_39 : decode b_Rf_since 39 = .ok (.iload_n 2, 1) := by decide +kernel
theorem d_Rf_since_40 : decode b_Rf_since 40 = .ok (.iadd, 1) := by decide +kernel
theorem d_Rf_since_41 : decode b_Rf_since 41 = .ok (.imul, 1) := by decide +kernel
theorem d_Rf_since_42 : decode b_Rf_since 42 = .ok (.iload_n 3, 1) := by decide +kernel
theorem d_Rf_since_43 : decode b_Rf_since 43 = .ok (.iadd, 1) := by decide +kernel
theorem d_Rf_since_44 : decode b_Rf_since 44 = .ok (.iaload, 1) := by decide +kernel
theorem d_Rf_since_45 : decode b_Rf_since 45 = .ok (.goto 4, 3) := by decide +kernel
theorem d_Rf_since_48 : decode b_Rf_since 48 = .ok (.iconst 0, 1) := by decide +kernel
theorem d_Rf_since_49 : decode b_Rf_since 49 = .ok (.ireturn, 1) := by decide +kernel
theorem d_Rf_told_0 : decode b_Rf_told 0 = .ok (.aload_n 0, 1) := by decide +kernel
theorem d_Rf_told_1 : decode b_Rf_told 1 = .ok (.iload_n 1, 1) := by decide +kernel
theorem d_Rf_told_2 : decode b_Rf_told 2 = .ok (.aload_n 0, 1) := by decide +kernel
theorem d_Rf_told_3 : decode b_Rf_told 3 = .ok (.getfield 105, 3) := by decide +kernel
theorem d_Rf_told_6 : decode b_Rf_told 6 = .ok (.invokestatic 101, 3) := by decide +kernel
theorem d_Rf_told_9 : decode b_Rf_told 9 = .ok (.ifCond .eq 16, 3) := by decide +kernel
theorem d_Rf_told_12 : decode b_Rf_told 12 = .ok (.iload_n 2, 1) := by decide +kernel
theorem d_Rf_told_13 : decode b_Rf_told 13 = .ok (.bipush 6, 2) := by decide +kernel
theorem d_Rf_told_15 : decode b_Rf_told 15 = .ok (.invokestatic 101, 3) := by decide +kernel
theorem d_Rf_told_18 : decode b_Rf_told 18 = .ok (.ifCond .eq 7, 3) := by decide +kernel
theorem d_Rf_told_21 : decode b_Rf_told 21 = .ok (.iconst 1, 1) := by decide +kernel
theorem d_Rf_told_22 : decode b_Rf_told 22 = .ok (.goto 4, 3) := by decide +kernel
theorem d_Rf_told_25 : decode b_Rf_told 25 = .ok (.iconst 0, 1) := by decide +kernel
theorem d_Rf_told_26 : decode b_Rf_told 26 = .ok (.iconst 1, 1) := by decide +kernel
theorem d_Rf_told_27 : decode b_Rf_told 27 = .ok (.invokevirtual 108, 3) := by decide +kernel
theorem d_Rf_told_30 : decode b_Rf_told 30 = .ok (.ifCond .ne 5, 3) := by decide +kernel
theorem d_Rf_told_33 : decode b_Rf_told 33 = .ok (.iconst 0, 1) := by decide +kernel
theorem d_Rf_told_34 : decode b_Rf_told 34 = .ok (.ireturn, 1) := by decide +kernel
theorem d_Rf_told_35 : decode b_Rf_told 35 = .ok (.iload_n 2, 1) := by decide +kernel
theorem d_Rf_told_36 : decode b_Rf_told 36 = .ok (.ifCond .ne 12, 3) := by decide +kernel
theorem d_Rf_told_39 : decode b_Rf_told 39 = .ok (.aload_n 0, 1) := by decide +kernel
theorem d_Rf_told_40 : decode b_Rf_told 40 = .ok (.getfield 45, 3) := by decide +kernel
theorem d_Rf_told_43 : decode b_Rf_told 43 = .ok (.iload_n 1, 1) := by decide +kernel
theorem d_Rf_told_44 : decode b_Rf_told 44 = .ok (.iaload, 1) := by decide +kernel
theorem d_Rf_told_45 : decode b_Rf_told 45 = .ok (.goto 65, 3) := by decide +kernel
theorem d_Rf_told_48 : decode b_Rf_told 48 = .ok (.iload_n 2, 1) := by decide +kernel
theorem d_Rf_told_49 : decode b_Rf_told 49 = .ok (.iconst 1, 1) := by decide +kernel
theorem d_Rf_told_50 : decode b_Rf_told 50 = .ok (.if_icmp .ne 12, 3) := by decide +kernel
theorem d_Rf_told_53 : decode b_Rf_told 53 = .ok (.aload_n 0, 1) := by decide +kernel
theorem d_Rf_told_54 : decode b_Rf_told 54 = .ok (.getfield 33, 3) := by decide +kernel
theorem d_Rf_told_57 : decode b_Rf_told 57 = .ok (.iload_n 1, 1) := by decide +kernel
theorem d_Rf_told_58 : decode b_Rf_told 58 = .ok (.iaload, 1) := by decide +kernel
theorem d_Rf_told_59 : decode b_Rf_told 59 = .ok (.goto 51, 3) := by decide +kernel
theorem d_Rf_told_62 : decode b_Rf_told 62 = .ok (.iload_n 2, 1) := by decide +kernel
theorem d_Rf_told_63 : decode b_Rf_told 63 = .ok (.iconst 2, 1) := by decide +kernel
theorem d_Rf_told_64 : decode b_Rf_told 64 = .ok (.if_icmp .ne 12, 3) := by decide +kernel
theorem d_Rf_told_67 : decode b_Rf_told 67 = .ok (.aload_n 0, 1) := by decide +kernel
theorem d_Rf_told_68 : decode b_Rf_told 68 = .ok (.getfield 36, 3) := by decide +kernel
theorem d_Rf_told_71 : decode b_Rf_told 71 = .ok (.iload_n 1, 1) := by decide +kernel
theorem d_Rf_told_72 : decode b_Rf_told 72 = .ok (.iaload, 1) := by decide +kernel
theorem d_Rf_told_73 : decode b_Rf_told 73 = .ok (.goto 37, 3) := by decide +kernel
theorem d_Rf_told_76 : decode b_Rf_told 76 = .ok (.iload_n 2, 1) := by decide +kernel
theorem d_Rf_told_77 : decode b_Rf_told 77 = .ok (.iconst 3, 1) := by decide +kernel
theorem d_Rf_told_78 : decode b_Rf_told 78 = .ok (.if_icmp .ne 12, 3) := by decide +kernel
theorem d_Rf_told_81 : decode b_Rf_told 81 = .ok (.aload_n 0, 1) := by decide +kernel
theorem d_Rf_told_82 : decode b_Rf_told 82 = .ok (.getfield 39, 3) := by decide +kernel
theorem d_Rf_told_85 : decode b_Rf_told 85 = .ok (.iload_n 1, 1) := by decide +kernel
theorem d_Rf_told_86 : decode b_Rf_told 86 = .ok (.iaload, 1) := by decide +kernel
theorem d_Rf_told_87 : decode b_Rf_told 87 = .ok (.goto 23, 3) := by decide +kernel
theorem d_Rf_told_90 : decode b_Rf_told 90 = .ok (.iload_n 2, 1) := by decide +kernel
theorem d_Rf_told_91 : decode b_Rf_told 91 = .ok (.iconst 4, 1) := by decide +kernel
theorem d_Rf_told_92 : decode b_Rf_told 92 = .ok (.if_icmp .ne 12, 3) := by decide +kernel
theorem d_Rf_told_95 : decode b_Rf_told 95 = .ok (.aload_n 0, 1) := by decide +kernel
theorem d_Rf_told_96 : decode b_Rf_told 96 = .ok (.getfield 42, 3) := by decide +kernel
theorem d_Rf_told_99 : decode b_Rf_told 99 = .ok (.iload_n 1, 1) := by decide +kernel
theorem d_Rf_told_100 : decode b_Rf_told 100 = .ok (.iaload, 1) := by decide +kernel
theorem d_Rf_told_101 : decode b_Rf_told 101 = .ok (.goto 9, 3) := by decide +kernel
theorem d_Rf_told_104 : decode b_Rf_told 104 = .ok (.aload_n 0, 1) := by decide +kernel
theorem d_Rf_told_105 : decode b_Rf_told 105 = .ok (.getfield 48, 3) := by decide +kernel
theorem d_Rf_told_108 : decode b_Rf_told 108 = .ok (.iload_n 1, 1) := by decide +kernel
theorem d_Rf_told_109 : decode b_Rf_told 109 = .ok (.iaload, 1) := by decide +kernel
theorem d_Rf_told_110 : decode b_Rf_told 110 = .ok (.ireturn, 1) := by decide +kernel
theorem d_Rf_author_0 : decode b_Rf_author 0 = .ok (.aload_n 0, 1) := by decide +kernel
theorem d_Rf_author_1 : decode b_Rf_author 1 = .ok (.iload_n 1, 1) := by decide +kernel
theorem d_Rf_author_2 : decode b_Rf_author 2 = .ok (.ifCond .le 15, 3) := by decide +kernel
theorem d_Rf_author_5 : decode b_Rf_author 5 = .ok (.iload_n 1, 1) := by decide +kernel
theorem d_Rf_author_6 : decode b_Rf_author 6 = .ok (.aload_n 0, 1) := by decide +kernel
theorem d_Rf_author_7 : decode b_Rf_author 7 = .ok (.getfield 16, 3) := by decide +kernel
theorem d_Rf_author_10 : decode b_Rf_author 10 = .ok (.if_icmp .ge 7, 3) := by decide +kernel
theorem d_Rf_author_13 : decode b_Rf_author 13 = .ok (.iconst 1, 1) := by decide +kernel
theorem d_Rf_author_14 : decode b_Rf_author 14 = .ok (.goto 4, 3) := by decide +kernel
theorem d_Rf_author_17 : decode b_Rf_author 17 = .ok (.iconst 0, 1) := by decide +kernel
theorem d_Rf_author_18 : decode b_Rf_author 18 = .ok (.iconst 1, 1) := by decide +kernel
theorem d_Rf_author_19 : decode b_Rf_author 19 = .ok (.invokevirtual 108, 3) := by decide +kernel
theorem d_Rf_author_22 : decode b_Rf_author 22 = .ok (.ifCond .eq 12, 3) := by decide +kernel
theorem d_Rf_author_25 : decode b_Rf_author 25 = .ok (.aload_n 0, 1) := by decide +kernel
theorem d_Rf_author_26 : decode b_Rf_author 26 = .ok (.getfield 30, 3) := by decide +kernel
theorem d_Rf_author_29 : decode b_Rf_author 29 = .ok (.iload_n 1, 1) := by decide +kernel
theorem d_Rf_author_30 : decode b_Rf_author 30 = .ok (.iaload, 1) := by decide +kernel
theorem d_Rf_author_31 : decode b_Rf_author 31 = .ok (.goto 4, 3) := by decide +kernel
theorem d_Rf_author_34 : decode b_Rf_author 34 = .ok (.iconst 0, 1) := by decide +kernel
theorem d_Rf_author_35 : decode b_Rf_author 35 = .ok (.ireturn, 1) := by decide +kernel
theorem d_Rf_count_0 : decode b_Rf_count 0 = .ok (.aload_n 0, 1) := by decide +kernel
theorem d_Rf_count_1 : decode b_Rf_count 1 = .ok (.iload_n 1, 1) := by decide +kernel
theorem d_Rf_count_2 : decode b_Rf_count 2 = .ok (.iconst 4, 1) := by decide +kernel
theorem d_Rf_count_3 : decode b_Rf_count 3 = .ok (.invokestatic 101, 3) := by decide +kernel
theorem d_Rf_count_6 : decode b_Rf_count 6 = .ok (.iconst 1, 1) := by decide +kernel
theorem d_Rf_count_7 : decode b_Rf_count 7 = .ok (.invokevirtual 108, 3) := by decide +kernel
theorem d_Rf_count_10 : decode b_Rf_count 10 = .ok (.ifCond .ne 5, 3) := by decide +kernel
theorem d_Rf_count_13 : decode b_Rf_count 13 = .ok (.iconst 0, 1) := by decide +kernel
theorem d_Rf_count_14 : decode b_Rf_count 14 = .ok (.ireturn, 1) := by decide +kernel
theorem d_Rf_count_15 : decode b_Rf_count 15 = .ok (.iload_n 1, 1) := by decide +kernel
theorem d_Rf_count_16 : decode b_Rf_count 16 = .ok (.ifCond .ne 10, 3) := by decide +kernel
theorem d_Rf_count_19 : decode b_Rf_count 19 = .ok (.aload_n 0, 1) := by decide +kernel
theorem d_Rf_count_20 : decode b_Rf_count 20 = .ok (.getfield 16, 3) := by decide +kernel
theorem d_Rf_count_23 : decode b_Rf_count 23 = .ok (.goto 31, 3) := by decide +kernel
theorem d_Rf_count_26 : decode b_Rf_count 26 = .ok (.iload_n 1, 1) := by decide +kernel
theorem d_Rf_count_27 : decode b_Rf_count 27 = .ok (.iconst 1, 1) := by decide +kernel
theorem d_Rf_count_28 : decode b_Rf_count 28 = .ok (.if_icmp .ne 10, 3) := by decide +kernel
theorem d_Rf_count_31 : decode b_Rf_count 31 = .ok (.aload_n 0, 1) := by decide +kernel
theorem d_Rf_count_32 : decode b_Rf_count 32 = .ok (.getfield 116, 3) := by decide +kernel
theorem d_Rf_count_35 : decode b_Rf_count 35 = .ok (.goto 19, 3) := by decide +kernel
theorem d_Rf_count_38 : decode b_Rf_count 38 = .ok (.iload_n 1, 1) := by decide +kernel
theorem d_Rf_count_39 : decode b_Rf_count 39 = .ok (.iconst 2, 1) := by decide +kernel
theorem d_Rf_count_40 : decode b_Rf_count 40 = .ok (.if_icmp .ne 10, 3) := by decide +kernel
theorem d_Rf_count_43 : decode b_Rf_count 43 = .ok (.aload_n 0, 1) := by decide +kernel
theorem d_Rf_count_44 : decode b_Rf_count 44 = .ok (.getfield 105, 3) := by decide +kernel
theorem d_Rf_count_47 : decode b_Rf_count 47 = .ok (.goto 7, 3) := by decide +kernel
theorem d_Rf_count_50 : decode b_Rf_count 50 = .ok (.aload_n 0, 1) := by decide +kernel
theorem d_Rf_count_51 : decode b_Rf_count 51 = .ok (.getfield 130, 3) := by decide +kernel
theorem d_Rf_count_54 : decode b_Rf_count 54 = .ok (.ireturn, 1) := by decide +kernel
theorem d_Rf_differs_0 : decode b_Rf_differs 0 = .ok (.aload_n 0, 1) := by decide +kernel
theorem d_Rf_differs_1 : decode b_Rf_differs 1 = .ok (.iload_n 1, 1) := by decide +kernel
theorem d_Rf_differs_2 : decode b_Rf_differs 2 = .ok (.aload_n 0, 1) := by decide +kernel
theorem d_Rf_differs_3 : decode b_Rf_differs 3 = .ok (.getfield 16, 3) := by decide +kernel
theorem d_Rf_differs_6 : decode b_Rf_differs 6 = .ok (.invokestatic 101, 3) := by decide +kernel
theorem d_Rf_differs_9 : decode b_Rf_differs 9 = .ok (.ifCond .eq 22, 3) := by decide +kernel
theorem d_Rf_differs_12 : decode b_Rf_differs 12 = .ok (.iload_n 2, 1) := by decide +kernel
theorem d_Rf_differs_13 : decode b_Rf_differs 13 = .ok (.aload_n 0, 1) := by decide +kernel
theorem d_Rf_differs_14 : decode b_Rf_differs 14 = .ok (.getfield 16, 3) := by decide +kernel
theorem d_Rf_differs_17 : decode b_Rf_differs 17 = .ok (.invokestatic 101, 3) := by decide +kernel
theorem d_Rf_differs_20 : decode b_Rf_differs 20 = .ok (.ifCond .eq 11, 3) := by decide +kernel
theorem d_Rf_differs_23 : decode b_Rf_differs 23 = .ok (.iload_n 3, 1) := by decide +kernel
theorem d_Rf_differs_24 : decode b_Rf_differs 24 = .ok (.ifCond .lt 7, 3) := by decide +kernel
theorem d_Rf_differs_27 : decode b_Rf_differs 27 = .ok (.iconst 1, 1) := by decide +kernel
theorem d_Rf_differs_28 : decode b_Rf_differs 28 = .ok (.goto 4, 3) := by decide +kernel
theorem d_Rf_differs_31 : decode b_Rf_differs 31 = .ok (.iconst 0, 1) := by decide +kernel
theorem d_Rf_differs_32 : decode b_Rf_differs 32 = .ok (.iconst 1, 1) := by decide +kernel
theorem d_Rf_differs_33 : decode b_Rf_differs 33 = .ok (.invokevirtual 108, 3) := by decide +kernel
theorem d_Rf_differs_36 : decode b_Rf_differs 36 = .ok (.ifCond .ne 5, 3) := by decide +kernel
theorem d_Rf_differs_39 : decode b_Rf_differs 39 = .ok (.iconst 0, 1) := by decide +kernel
theorem d_Rf_differs_40 : decode b_Rf_differs 40 = .ok (.ireturn, 1) := by decide +kernel
theorem d_Rf_differs_41 : decode b_Rf_differs 41 = .ok (.iconst 0, 1) := by decide +kernel
theorem d_Rf_differs_42 : decode b_Rf_differs 42 = .ok (.istore 4, 2) := by decide +kernel
theorem d_Rf_differs_44 : decode b_Rf_differs 44 = .ok (.iconst 0, 1) := by decide +kernel
theorem d_Rf_differs_45 : decode b_Rf_differs 45 = .ok (.istore 5, 2) := by decide +kernel
theorem d_Rf_differs_47 : decode b_Rf_differs 47 = .ok (.iload 5, 2) := by decide +kernel
theorem d_Rf_differs_49 : decode b_Rf_differs 49 = .ok (.aload_n 0, 1) := by decide +kernel
theorem d_Rf_differs_50 : decode b_Rf_differs 50 = .ok (.getfield 116, 3) := by decide +kernel
theorem d_Rf_differs_53 : decode b_Rf_differs 53 = .ok (.if_icmp .ge 133, 3) := by decide +kernel
theorem d_Rf_differs_56 : decode b_Rf_differs 56 = .ok (.aload_n 0, 1) := by decide +kernel
theorem d_Rf_differs_57 : decode b_Rf_differs 57 = .ok (.iload_n 1, 1) := by decide +kernel
theorem d_Rf_differs_58 : decode b_Rf_differs 58 = .ok (.iload 5, 2) := by decide +kernel
theorem d_Rf_differs_60 : decode b_Rf_differs 60 = .ok (.invokevirtual 162, 3) := by decide +kernel
theorem d_Rf_differs_63 : decode b_Rf_differs 63 = .ok (.istore 6, 2) := by decide +kernel
theorem d_Rf_differs_65 : decode b_Rf_differs 65 = .ok (.aload_n 0, 1) := by decide +kernel
theorem d_Rf_differs_66 : decode b_Rf_differs 66 = .ok (.iload_n 2, 1) := by decide +kernel
theorem d_Rf_differs_67 : decode b_Rf_differs 67 = .ok (.iload 5, 2) := by decide +kernel
theorem d_Rf_differs_69 : decode b_Rf_differs 69 = .ok (.invokevirtual 162, 3) := by decide +kernel
theorem d_Rf_differs_72 : decode b_Rf_differs 72 = .ok (.istore 7, 2) := by decide +kernel
theorem d_Rf_differs_74 : decode b_Rf_differs 74 = .ok (.iconst 0, 1) := by decide +kernel
theorem d_Rf_differs_75 : decode b_Rf_differs 75 = .ok (.istore 8, 2) := by decide +kernel
theorem d_Rf_differs_77 : decode b_Rf_differs 77 = .ok (.iload 8, 2) := by decide +kernel
theorem d_Rf_differs_79 : decode b_Rf_differs 79 = .ok (.iconst 5, 1) := by decide +kernel
theorem d_Rf_differs_80 : decode b_Rf_differs 80 = .ok (.if_icmp .ge 100, 3) := by decide +kernel
theorem d_Rf_differs_83 : decode b_Rf_differs 83 = .ok (.aload_n 0, 1) := by decide +kernel
theorem d_Rf_differs_84 : decode b_Rf_differs 84 = .ok (.getfield 24, 3) := by decide +kernel
theorem d_Rf_differs_87 : decode b_Rf_differs 87 = .ok (.iconst 5, 1) := by decide +kernel
theorem d_Rf_differs_88 : decode b_Rf_differs 88 = .ok (.bipush 60, 2) := by decide +kernel
theorem d_Rf_differs_90 : decode b_Rf_differs 90 = .ok (.iload_n 1, 1) := by decide +kernel
theorem d_Rf_differs_91 : decode b_Rf_differs 91 = .ok (.imul, 1) := by decide +kernel
theorem d_Rf_differs_92 : decode b_Rf_differs 92 = .ok (.iload 5, 2) := by decide +kernel
theorem d_Rf_differs_94 : decode b_Rf_differs 94 = .ok (.iadd, 1) := by decide +kernel
theorem d_Rf_differs_95 : decode b_Rf_differs 95 = .ok (.imul, 1) := by decide +kernel
theorem d_Rf_differs_96 : decode b_Rf_differs 96 = .ok (.iload 8, 2) := by decide +kernel
theorem d_Rf_differs_98 : decode b_Rf_differs 98 = .ok (.iadd, 1) := by decide +kernel
theorem d_Rf_differs_99 : decode b_Rf_differs 99 = .ok (.iaload, 1) := by decide +kernel
theorem d_Rf_differs_100 : decode b_Rf_differs 100 = .ok (.aload_n 0, 1) := by decide +kernel
theorem d_Rf_differs_101 : decode b_Rf_differs 101 = .ok (.getfield 24, 3) := by decide +kernel
theorem d_Rf_differs_104 : decode b_Rf_differs 104 = .ok (.iconst 5, 1) := by decide +kernel
theorem d_Rf_differs_105 : decode b_Rf_differs 105 = .ok (.bipush 60, 2) := by decide +kernel
theorem d_Rf_differs_107 : decode b_Rf_differs 107 = .ok (.iload_n 2, 1) := by decide +kernel
theorem d_Rf_differs_108 : decode b_Rf_differs 108 = .ok (.imul, 1) := by decide +kernel
theorem d_Rf_differs_109 : decode b_Rf_differs 109 = .ok (.iload 5, 2) := by decide +kernel
theorem d_Rf_differs_111 : decode b_Rf_differs 111 = .ok (.iadd, 1) := by decide +kernel
theorem d_Rf_differs_112 : decode b_Rf_differs 112 = .ok (.imul, 1) := by decide +kernel
theorem d_Rf_differs_113 : decode b_Rf_differs 113 = .ok (.iload 8, 2) := by decide +kernel
theorem d_Rf_differs_115 : decode b_Rf_differs 115 = .ok (.iadd, 1) := by decide +kernel
theorem d_Rf_differs_116 : decode b_Rf_differs 116 = .ok (.iaload, 1) := by decide +kernel
theorem d_Rf_differs_117 : decode b_Rf_differs 117 = .ok (.if_icmp .eq 7, 3) := by decide +kernel
theorem d_Rf_differs_120 : decode b_Rf_differs 120 = .ok (.iconst 1, 1) := by decide +kernel
theorem d_Rf_differs_121 : decode b_Rf_differs 121 = .ok (.goto 4, 3) := by decide +kernel
theorem d_Rf_differs_124 : decode b_Rf_differs 124 = .ok (.iconst 0, 1) := by decide +kernel
theorem d_Rf_differs_125 : decode b_Rf_differs 125 = .ok (.istore 9, 2) := by decide +kernel
theorem d_Rf_differs_127 : decode b_Rf_differs 127 = .ok (.iload 6, 2) := by decide +kernel
theorem d_Rf_differs_129 : decode b_Rf_differs 129 = .ok (.ifCond .eq 16, 3) := by decide +kernel
theorem d_Rf_differs_132 : decode b_Rf_differs 132 = .ok (.iload 7, 2) := by decide +kernel
theorem d_Rf_differs_134 : decode b_Rf_differs 134 = .ok (.ifCond .eq 11, 3) := by decide +kernel
theorem d_Rf_differs_137 : decode b_Rf_differs 137 = .ok (.iload 9, 2) := by decide +kernel
theorem d_Rf_differs_139 : decode b_Rf_differs 139 = .ok (.ifCond .eq 35, 3) := by decide +kernel
theorem d_Rf_differs_142 : decode b_Rf_differs 142 = .ok (.goto 15, 3) := by decide +kernel
theorem d_Rf_differs_145 : decode b_Rf_differs 145 = .ok (.iload 6, 2) := by decide +kernel
theorem d_Rf_differs_147 : decode b_Rf_differs 147 = .ok (.iload 7, 2) := by decide +kernel
theorem d_Rf_differs_149 : decode b_Rf_differs 149 = .ok (.if_icmp .eq 25, 3) := by decide +kernel
theorem d_Rf_differs_152 : decode b_Rf_differs 152 = .ok (.iload 8, 2) := by decide +kernel
theorem d_Rf_differs_154 : decode b_Rf_differs 154 = .ok (.ifCond .ne 20, 3) := by decide +kernel
theorem d_Rf_differs_157 : decode b_Rf_differs 157 = .ok (.iload 4, 2) := by decide +kernel
theorem d_Rf_differs_159 : decode b_Rf_differs 159 = .ok (.iload_n 3, 1) := by decide +kernel
theorem d_Rf_differs_160 : decode b_Rf_differs 160 = .ok (.if_icmp .ne 11, 3) := by decide +kernel
theorem d_Rf_differs_163 : decode b_Rf_differs 163 = .ok (.iconst 5, 1) := by decide +kernel
theorem d_Rf_differs_164 : decode b_Rf_differs 164 = .ok (.iload 5, 2) := by decide +kernel
theorem d_Rf_differs_166 : decode b_Rf_differs 166 = .ok (.imul, 1) := by decide +kernel
theorem d_Rf_differs_167 : decode b_Rf_differs 167 = .ok (.iload 8, 2) := by decide +kernel
theorem d_Rf_differs_169 : decode b_Rf_differs 169 = .ok (.iadd, 1) := by decide +kernel
theorem d_Rf_differs_170 : decode b_Rf_differs 170 = .ok (.ireturn, 1) := by decide +kernel
theorem d_Rf_differs_171 : decode b_Rf_differs 171 = .ok (.iinc 4 1, 3) := by decide +kernel
theorem d_Rf_differs_174 : decode b_Rf_differs 174 = .ok (.iinc 8 1, 3) := by decide +kernel
theorem d_Rf_differs_177 : decode b_Rf_differs 177 = .ok (.goto (-100), 3) := by decide +kernel
theorem d_Rf_differs_180 : decode b_Rf_differs 180 = .ok (.iinc 5 1, 3) := by decide +kernel
theorem d_Rf_differs_183 : decode b_Rf_differs 183 = .ok (.goto (-136), 3) := by decide +kernel
theorem d_Rf_differs_186 : decode b_Rf_differs 186 = .ok (.iconst (-1), 1) := by decide +kernel
theorem d_Rf_differs_187 : decode b_Rf_differs 187 = .ok (.ireturn, 1) := by decide +kernel
theorem d_Rf_broken_0 : decode b_Rf_broken 0 = .ok (.aload_n 0, 1) := by decide +kernel
theorem d_Rf_broken_1 : decode b_Rf_broken 1 = .ok (.iload_n 1, 1) := by decide +kernel
theorem d_Rf_broken_2 : decode b_Rf_broken 2 = .ok (.aload_n 0, 1) := by decide +kernel
theorem d_Rf_broken_3 : decode b_Rf_broken 3 = .ok (.getfield 16, 3) := by decide +kernel
theorem d_Rf_broken_6 : decode b_Rf_broken 6 = .ok (.invokestatic 101, 3) := by decide +kernel
theorem d_Rf_broken_9 : decode b_Rf_broken 9 = .ok (.ifCond .eq 11, 3) := by decide +kernel
theorem d_Rf_broken_12 : decode b_Rf_broken 12 = .ok (.iload_n 2, 1) := by decide +kernel
theorem d_Rf_broken_13 : decode b_Rf_broken 13 = .ok (.ifCond .lt 7, 3) := by decide +kernel
theorem d_Rf_broken_16 : decode b_Rf_broken 16 = .ok (.iconst 1, 1) := by decide +kernel
theorem d_Rf_broken_17 : decode b_Rf_broken 17 = .ok (.goto 4, 3) := by decide +kernel
theorem d_Rf_broken_20 : decode b_Rf_broken 20 = .ok (.iconst 0, 1) := by decide +kernel
theorem d_Rf_broken_21 : decode b_Rf_broken 21 = .ok (.iconst 1, 1) := by decide +kernel
theorem d_Rf_broken_22 : decode b_Rf_broken 22 = .ok (.invokevirtual 108, 3) := by decide +kernel
theorem d_Rf_broken_25 : decode b_Rf_broken 25 = .ok (.ifCond .ne 5, 3) := by decide +kernel
theorem d_Rf_broken_28 : decode b_Rf_broken 28 = .ok (.iconst 0, 1) := by decide +kernel
theorem d_Rf_broken_29 : decode b_Rf_broken 29 = .ok (.ireturn, 1) := by decide +kernel
theorem d_Rf_broken_30 : decode b_Rf_broken 30 = .ok (.iconst 0, 1) := by decide +kernel
theorem d_Rf_broken_31 : decode b_Rf_broken 31 = .ok (.istore_n 3, 1) := by decide +kernel
theorem d_Rf_broken_32 : decode b_Rf_broken 32 = .ok (.iconst 0, 1) := by decide +kernel
theorem d_Rf_broken_33 : decode b_Rf_broken 33 = .ok (.istore 4, 2) := by decide +kernel
theorem d_Rf_broken_35 : decode b_Rf_broken 35 = .ok (.iload 4, 2) := by decide +kernel
theorem d_Rf_broken_37 : decode b_Rf_broken 37 = .ok (.aload_n 0, 1) := by decide +kernel
theorem d_Rf_broken_38 : decode b_Rf_broken 38 = .ok (.getfield 130, 3) := by decide +kernel
theorem d_Rf_broken_41 : decode b_Rf_broken 41 = .ok (.if_icmp .ge 144, 3) := by decide +kernel
theorem d_Rf_broken_44 : decode b_Rf_broken 44 = .ok (.iconst 0, 1) := by decide +kernel
theorem d_Rf_broken_45 : decode b_Rf_broken 45 = .ok (.istore 5, 2) := by decide +kernel
theorem d_Rf_broken_47 : decode b_Rf_broken 47 = .ok (.iload 5, 2) := by decide +kernel
theorem d_Rf_broken_49 : decode b_Rf_broken 49 = .ok (.aload_n 0, 1) := by decide +kernel
theorem d_Rf_broken_50 : decode b_Rf_broken 50 = .ok (.getfield 116, 3) := by decide +kernel
theorem d_Rf_broken_53 : decode b_Rf_broken 53 = .ok (.if_icmp .ge 126, 3) := by decide +kernel
theorem d_Rf_broken_56 : decode b_Rf_broken 56 = .ok (.aload_n 0, 1) := by decide +kernel
theorem d_Rf_broken_57 : decode b_Rf_broken 57 = .ok (.getfield 7, 3) := by decide +kernel
theorem d_Rf_broken_60 : decode b_Rf_broken 60 = .ok (.iload 5, 2) := by decide +kernel
theorem d_Rf_broken_62 : decode b_Rf_broken 62 = .ok (.iaload, 1) := by decide +kernel
theorem d_Rf_broken_63 : decode b_Rf_broken 63 = .ok (.aload_n 0, 1) := by decide +kernel
theorem d_Rf_broken_64 : decode b_Rf_broken 64 = .ok (.getfield 69, 3) := by decide +kernel
theorem d_Rf_broken_67 : decode b_Rf_broken 67 = .ok (.iload 4, 2) := by decide +kernel
theorem d_Rf_broken_69 : decode b_Rf_broken 69 = .ok (.iaload, 1) := by decide +kernel
theorem d_Rf_broken_70 : decode b_Rf_broken 70 = .ok (.if_icmp .ne 103, 3) := by decide +kernel
theorem d_Rf_broken_73 : decode b_Rf_broken 73 = .ok (.aload_n 0, 1) := by decide +kernel
theorem d_Rf_broken_74 : decode b_Rf_broken 74 = .ok (.iload_n 1, 1) := by decide +kernel
theorem d_Rf_broken_75 : decode b_Rf_broken 75 = .ok (.iload 5, 2) := by decide +kernel
theorem d_Rf_broken_77 : decode b_Rf_broken 77 = .ok (.invokevirtual 162, 3) := by decide +kernel
theorem d_Rf_broken_80 : decode b_Rf_broken 80 = .ok (.ifCond .eq 93, 3) := by decide +kernel
theorem d_Rf_broken_83 : decode b_Rf_broken 83 = .ok (.aload_n 0, 1) := by decide +kernel
theorem d_Rf_broken_84 : decode b_Rf_broken 84 = .ok (.getfield 24, 3) := by decide +kernel
theorem d_Rf_broken_87 : decode b_Rf_broken 87 = .ok (.iconst 5, 1) := by decide +kernel
theorem d_Rf_broken_88 : decode b_Rf_broken 88 = .ok (.bipush 60, 2) := by decide +kernel
theorem d_Rf_broken_90 : decode b_Rf_broken 90 = .ok (.iload_n 1, 1) := by decide +kernel
theorem d_Rf_broken_91 : decode b_Rf_broken 91 = .ok (.imul, 1) := by decide +kernel
theorem d_Rf_broken_92 : decode b_Rf_broken 92 = .ok (.iload 5, 2) := by decide +kernel
theorem d_Rf_broken_94 : decode b_Rf_broken 94 = .ok (.iadd, 1) := by decide +kernel
theorem d_Rf_broken_95 : decode b_Rf_broken 95 = .ok (.imul, 1) := by decide +kernel
theorem d_Rf_broken_96 : decode b_Rf_broken 96 = .ok (.aload_n 0, 1) := by decide +kernel
theorem d_Rf_broken_97 : decode b_Rf_broken 97 = .ok (.getfield 72, 3) := by decide +kernel
theorem d_Rf_broken_100 : decode b_Rf_broken 100 = .ok (.iload 4, 2) := by decide +kernel
theorem d_Rf_broken_102 : decode b_Rf_broken 102 = .ok (.iaload, 1) := by decide +kernel
theorem d_Rf_broken_103 : decode b_Rf_broken 103 = .ok (.iadd, 1) := by decide +kernel
theorem d_Rf_broken_104 : decode b_Rf_broken 104 = .ok (.iaload, 1) := by decide +kernel
theorem d_Rf_broken_105 : decode b_Rf_broken 105 = .ok (.istore 6, 2) := by decide +kernel
theorem d_Rf_broken_107 : decode b_Rf_broken 107 = .ok (.aload_n 0, 1) := by decide +kernel
theorem d_Rf_broken_108 : decode b_Rf_broken 108 = .ok (.iload_n 1, 1) := by decide +kernel
theorem d_Rf_broken_109 : decode b_Rf_broken 109 = .ok (.iload 6, 2) := by decide +kernel
theorem d_Rf_broken_111 : decode b_Rf_broken 111 = .ok (.invokevirtual 162, 3) := by decide +kernel
theorem d_Rf_broken_114 : decode b_Rf_broken 114 = .ok (.ifCond .eq 24, 3) := by decide +kernel
theorem d_Rf_broken_117 : decode b_Rf_broken 117 = .ok (.aload_n 0, 1) := by decide +kernel
theorem d_Rf_broken_118 : decode b_Rf_broken 118 = .ok (.getfield 7, 3) := by decide +kernel
theorem d_Rf_broken_121 : decode b_Rf_broken 121 = .ok (.iload 6, 2) := by decide +kernel
theorem d_Rf_broken_123 : decode b_Rf_broken 123 = .ok (.iaload, 1) := by decide +kernel
theorem d_Rf_broken_124 : decode b_Rf_broken 124 = .ok (.aload_n 0, 1) := by decide +kernel
theorem d_Rf_broken_125 : decode b_Rf_broken 125 = .ok (.getfield 75, 3) := by decide +kernel
theorem d_Rf_broken_128 : decode b_Rf_broken 128 = .ok (.iload 4, 2) := by decide +kernel
theorem d_Rf_broken_130 : decode b_Rf_broken 130 = .ok (.iaload, 1) := by decide +kernel
theorem d_Rf_broken_131 : decode b_Rf_broken 131 = .ok (.if_icmp .ne 7, 3) := by decide +kernel
theorem d_Rf_broken_134 : decode b_Rf_broken 134 = .ok (.iconst 1, 1) := by decide +kernel
theorem d_Rf_broken_135 : decode b_Rf_broken 135 = .ok (.goto 4, 3) := by decide +kernel
theorem d_Rf_broken_138 : decode b_Rf_broken 138 = .ok (.iconst 0, 1) := by decide +kernel
theorem d_Rf_broken_139 : decode b_Rf_broken 139 = .ok (.istore 7, 2) := by decide +kernel
theorem d_Rf_broken_141 : decode b_Rf_broken 141 = .ok (.iload 7, 2) := by decide +kernel
theorem d_Rf_broken_143 : decode b_Rf_broken 143 = .ok (.ifCond .ne 17, 3) := by decide +kernel
theorem d_Rf_broken_146 : decode b_Rf_broken 146 = .ok (.iload_n 3, 1) := by decide +kernel
theorem d_Rf_broken_147 : decode b_Rf_broken 147 = .ok (.iload_n 2, 1) := by decide +kernel
theorem d_Rf_broken_148 : decode b_Rf_broken 148 = .ok (.if_icmp .ne 12, 3) := by decide +kernel
theorem d_Rf_broken_151 : decode b_Rf_broken 151 = .ok (.bipush 60, 2) := by decide +kernel
theorem d_Rf_broken_153 : decode b_Rf_broken 153 = .ok (.iload 4, 2) := by decide +kernel
theorem d_Rf_broken_155 : decode b_Rf_broken 155 = .ok (.imul, 1) := by decide +kernel
theorem d_Rf_broken_156 : decode b_Rf_broken 156 = .ok (.iload 5, 2) := by decide +kernel
theorem d_Rf_broken_158 : decode b_Rf_broken 158 = .ok (.iadd, 1) := by decide +kernel
theorem d_Rf_broken_159 : decode b_Rf_broken 159 = .ok (.ireturn, 1) := by decide +kernel
theorem d_Rf_broken_160 : decode b_Rf_broken 160 = .ok (.iload_n 3, 1) := by decide +kernel
theorem d_Rf_broken_161 : decode b_Rf_broken 161 = .ok (.iload 7, 2) := by decide +kernel
theorem d_Rf_broken_163 : decode b_Rf_broken 163 = .ok (.ifCond .eq 7, 3) := by decide +kernel
theorem d_Rf_broken_166 : decode b_Rf_broken 166 = .ok (.iconst 0, 1) := by decide +kernel
theorem d_Rf_broken_167 : decode b_Rf_broken 167 = .ok (.goto 4, 3) := by decide +kernel
theorem d_Rf_broken_170 : decode b_Rf_broken 170 = .ok (.iconst 1, 1) := by decide +kernel
theorem d_Rf_broken_171 : decode b_Rf_broken 171 = .ok (.iadd, 1) := by decide +kernel
theorem d_Rf_broken_172 : decode b_Rf_broken 172 = .ok (.istore_n 3, 1) := by decide +kernel
theorem d_Rf_broken_173 : decode b_Rf_broken 173 = .ok (.iinc 5 1, 3) := by decide +kernel
theorem d_Rf_broken_176 : decode b_Rf_broken 176 = .ok (.goto (-129), 3) := by decide +kernel
theorem d_Rf_broken_179 : decode b_Rf_broken 179 = .ok (.iinc 4 1, 3) := by decide +kernel
theorem d_Rf_broken_182 : decode b_Rf_broken 182 = .ok (.goto (-147), 3) := by decide +kernel
theorem d_Rf_broken_185 : decode b_Rf_broken 185 = .ok (.iconst (-1), 1) := by decide +kernel
theorem d_Rf_broken_186 : decode b_Rf_broken 186 = .ok (.ireturn, 1) := by decide +kernel
theorem d_Cf_init_0 : decode b_Cf_init 0 = .ok (.aload_n 0, 1) := by decide +kernel
theorem d_Cf_init_1 : decode b_Cf_init 1 = .ok (.invokespecial 3, 3) := by decide +kernel
theorem d_Cf_init_4 : decode b_Cf_init 4 = .ok (.aload_n 0, 1) := by decide +kernel
theorem d_Cf_init_5 : decode b_Cf_init 5 = .ok (.sipush 300, 3) := by decide +kernel
theorem d_Cf_init_8 : decode b_Cf_init 8 = .ok (.newarray .int, 2) := by decide +kernel
theorem d_Cf_init_10 : decode b_Cf_init 10 = .ok (.putfield 11, 3) := by decide +kernel
theorem d_Cf_init_13 : decode b_Cf_init 13 = .ok (.aload_n 0, 1) := by decide +kernel
theorem d_Cf_init_14 : decode b_Cf_init 14 = .ok (.sipush 300, 3) := by decide +kernel
theorem d_Cf_init_17 : decode b_Cf_init 17 = .ok (.newarray .int, 2) := by decide +kernel
theorem d_Cf_init_19 : decode b_Cf_init 19 = .ok (.putfield 15, 3) := by decide +kernel
theorem d_Cf_init_22 : decode b_Cf_init 22 = .ok (.aload_n 0, 1) := by decide +kernel
theorem d_Cf_init_23 : decode b_Cf_init 23 = .ok (.sipush 300, 3) := by decide +kernel
theorem d_Cf_init_26 : decode b_Cf_init 26 = .ok (.newarray .int, 2) := by decide +kernel
theorem d_Cf_init_28 : decode b_Cf_init 28 = .ok (.putfield 18, 3) := by decide +kernel
theorem d_Cf_init_31 : decode b_Cf_init 31 = .ok (.aload_n 0, 1) := by decide +kernel
theorem d_Cf_init_32 : decode b_Cf_init 32 = .ok (.iconst 0, 1) := by decide +kernel
theorem d_Cf_init_33 : decode b_Cf_init 33 = .ok (.putfield 21, 3) := by decide +kernel
theorem d_Cf_init_36 : decode b_Cf_init 36 = .ok (.return_, 1) := by decide +kernel
theorem d_Cf_clear_0 : decode b_Cf_clear 0 = .ok (.aload_n 0, 1) := by decide +kernel
theorem d_Cf_clear_1 : decode b_Cf_clear 1 = .ok (.iconst 0, 1) := by decide +kernel
theorem d_Cf_clear_2 : decode b_Cf_clear 2 = .ok (.putfield 21, 3) := by decide +kernel
theorem d_Cf_clear_5 : decode b_Cf_clear 5 = .ok (.return_, 1) := by decide +kernel
