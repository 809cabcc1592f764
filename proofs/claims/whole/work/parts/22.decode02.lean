theorem d_Rf_valueAt_0 : decode b_Rf_valueAt 0 = .ok (.iload_n 2, 1) := by decide +kernel
theorem d_Rf_valueAt_1 : decode b_Rf_valueAt 1 = .ok (.istore 5, 2) := by decide +kernel
theorem d_Rf_valueAt_3 : decode b_Rf_valueAt 3 = .ok (.iload 5, 2) := by decide +kernel
theorem d_Rf_valueAt_5 : decode b_Rf_valueAt 5 = .ok (.ifCond .le 96, 3) := by decide +kernel
theorem d_Rf_valueAt_8 : decode b_Rf_valueAt 8 = .ok (.bipush 60, 2) := by decide +kernel
theorem d_Rf_valueAt_10 : decode b_Rf_valueAt 10 = .ok (.iload_n 1, 1) := by decide +kernel
theorem d_Rf_valueAt_11 : decode b_Rf_valueAt 11 = .ok (.imul, 1) := by decide +kernel
theorem d_Rf_valueAt_12 : decode b_Rf_valueAt 12 = .ok (.iload 5, 2) := by decide +kernel
theorem d_Rf_valueAt_14 : decode b_Rf_valueAt 14 = .ok (.iadd, 1) := by decide +kernel
theorem d_Rf_valueAt_15 : decode b_Rf_valueAt 15 = .ok (.istore 6, 2) := by decide +kernel
theorem d_Rf_valueAt_17 : decode b_Rf_valueAt 17 = .ok (.aload_n 0, 1) := by decide +kernel
theorem d_Rf_valueAt_18 : decode b_Rf_valueAt 18 = .ok (.getfield 60, 3) := by decide +kernel
theorem d_Rf_valueAt_21 : decode b_Rf_valueAt 21 = .ok (.iload 6, 2) := by decide +kernel
theorem d_Rf_valueAt_23 : decode b_Rf_valueAt 23 = .ok (.iaload, 1) := by decide +kernel
theorem d_Rf_valueAt_24 : decode b_Rf_valueAt 24 = .ok (.iload_n 3, 1) := by decide +kernel
theorem d_Rf_valueAt_25 : decode b_Rf_valueAt 25 = .ok (.if_icmp .ne 59, 3) := by decide +kernel
theorem d_Rf_valueAt_28 : decode b_Rf_valueAt 28 = .ok (.aload_n 0, 1) := by decide +kernel
theorem d_Rf_valueAt_29 : decode b_Rf_valueAt 29 = .ok (.getfield 57, 3) := by decide +kernel
theorem d_Rf_valueAt_32 : decode b_Rf_valueAt 32 = .ok (.iload 6, 2) := by decide +kernel
theorem d_Rf_valueAt_34 : decode b_Rf_valueAt 34 = .ok (.iaload, 1) := by decide +kernel
theorem d_Rf_valueAt_35 : decode b_Rf_valueAt 35 = .ok (.iconst 1, 1) := by decide +kernel
theorem d_Rf_valueAt_36 : decode b_Rf_valueAt 36 = .ok (.if_icmp .eq 25, 3) := by decide +kernel
theorem d_Rf_valueAt_39 : decode b_Rf_valueAt 39 = .ok (.aload_n 0, 1) := by decide +kernel
theorem d_Rf_valueAt_40 : decode b_Rf_valueAt 40 = .ok (.getfield 57, 3) := by decide +kernel
theorem d_Rf_valueAt_43 : decode b_Rf_valueAt 43 = .ok (.iload 6, 2) := by decide +kernel
theorem d_Rf_valueAt_45 : decode b_Rf_valueAt 45 = .ok (.iaload, 1) := by decide +kernel
theorem d_Rf_valueAt_46 : decode b_Rf_valueAt 46 = .ok (.ifCond .ne 38, 3) := by decide +kernel
theorem d_Rf_valueAt_49 : decode b_Rf_valueAt 49 = .ok (.aload_n 0, 1) := by decide +kernel
theorem d_Rf_valueAt_50 : decode b_Rf_valueAt 50 = .ok (.getfield 63, 3) := by decide +kernel
theorem d_Rf_valueAt_53 : decode b_Rf_valueAt 53 = .ok (.iload 6, 2) := by decide +kernel
theorem d_Rf_valueAt_55 : decode b_Rf_valueAt 55 = .ok (.iaload, 1) := by decide +kernel
theorem d_Rf_valueAt_56 : decode b_Rf_valueAt 56 = .ok (.iload 4, 2) := by decide +kernel
theorem d_Rf_valueAt_58 : decode b_Rf_valueAt 58 = .ok (.if_icmp .ne 26, 3) := by decide +kernel
theorem d_Rf_valueAt_61 : decode b_Rf_valueAt 61 = .ok (.aload_n 0, 1) := by decide +kernel
theorem d_Rf_valueAt_62 : decode b_Rf_valueAt 62 = .ok (.getfield 57, 3) := by decide +kernel
theorem d_Rf_valueAt_65 : decode b_Rf_valueAt 65 = .ok (.iload 6, 2) := by decide +kernel
theorem d_Rf_valueAt_67 : decode b_Rf_valueAt 67 = .ok (.iaload, 1) := by decide +kernel
theorem d_Rf_valueAt_68 : decode b_Rf_valueAt 68 = .ok (.iconst 1, 1) := by decide +kernel
theorem d_Rf_valueAt_69 : decode b_Rf_valueAt 69 = .ok (.if_icmp .ne 7, 3) := by decide +kernel
theorem d_Rf_valueAt_72 : decode b_Rf_valueAt 72 = .ok (.iconst 0, 1) := by decide +kernel
theorem d_Rf_valueAt_73 : decode b_Rf_valueAt 73 = .ok (.goto 10, 3) := by decide +kernel
theorem d_Rf_valueAt_76 : decode b_Rf_valueAt 76 = .ok (.aload_n 0, 1) := by decide +kernel
theorem d_Rf_valueAt_77 : decode b_Rf_valueAt 77 = .ok (.getfield 66, 3) := by decide +kernel
theorem d_Rf_valueAt_80 : decode b_Rf_valueAt 80 = .ok (.iload 6, 2) := by decide +kernel
theorem d_Rf_valueAt_82 : decode b_Rf_valueAt 82 = .ok (.iaload, 1) := by decide +kernel
theorem d_Rf_valueAt_83 : decode b_Rf_valueAt 83 = .ok (.ireturn, 1) := by decide +kernel
theorem d_Rf_valueAt_84 : decode b_Rf_valueAt 84 = .ok (.aload_n 0, 1) := by decide +kernel
theorem d_Rf_valueAt_85 : decode b_Rf_valueAt 85 = .ok (.getfield 51, 3) := by decide +kernel
theorem d_Rf_valueAt_88 : decode b_Rf_valueAt 88 = .ok (.bipush 60, 2) := by decide +kernel
theorem d_Rf_valueAt_90 : decode b_Rf_valueAt 90 = .ok (.iload_n 1, 1) := by decide +kernel
theorem d_Rf_valueAt_91 : decode b_Rf_valueAt 91 = .ok (.imul, 1) := by decide +kernel
theorem d_Rf_valueAt_92 : decode b_Rf_valueAt 92 = .ok (.iload 5, 2) := by decide +kernel
theorem d_Rf_valueAt_94 : decode b_Rf_valueAt 94 = .ok (.iadd, 1) := by decide +kernel
theorem d_Rf_valueAt_95 : decode b_Rf_valueAt 95 = .ok (.iaload, 1) := by decide +kernel
theorem d_Rf_valueAt_96 : decode b_Rf_valueAt 96 = .ok (.istore 5, 2) := by decide +kernel
theorem d_Rf_valueAt_98 : decode b_Rf_valueAt 98 = .ok (.goto (-95), 3) := by decide +kernel
theorem d_Rf_valueAt_101 : decode b_Rf_valueAt 101 = .ok (.aload_n 0, 1) := by decide +kernel
theorem d_Rf_valueAt_102 : decode b_Rf_valueAt 102 = .ok (.getfield 24, 3) := by decide +kernel
theorem d_Rf_valueAt_105 : decode b_Rf_valueAt 105 = .ok (.iconst 5, 1) := by decide +kernel
theorem d_Rf_valueAt_106 : decode b_Rf_valueAt 106 = .ok (.bipush 60, 2) := by decide +kernel
theorem d_Rf_valueAt_108 : decode b_Rf_valueAt 108 = .ok (.aload_n 0, 1) := by decide +kernel
theorem d_Rf_valueAt_109 : decode b_Rf_valueAt 109 = .ok (.getfield 36, 3) := by decide +kernel
theorem d_Rf_valueAt_112 : decode b_Rf_valueAt 112 = .ok (.iload_n 1, 1) := by decide +kernel
theorem d_Rf_valueAt_113 : decode b_Rf_valueAt 113 = .ok (.iaload, 1) := by decide +kernel
theorem d_Rf_valueAt_114 : decode b_Rf_valueAt 114 = .ok (.imul, 1) := by decide +kernel
theorem d_Rf_valueAt_115 : decode b_Rf_valueAt 115 = .ok (.iload_n 3, 1) := by decide +kernel
theorem d_Rf_valueAt_116 : decode b_Rf_valueAt 116 = .ok (.iadd, 1) := by decide +kernel
theorem d_Rf_valueAt_117 : decode b_Rf_valueAt 117 = .ok (.imul, 1) := by decide +kernel
theorem d_Rf_valueAt_118 : decode b_Rf_valueAt 118 = .ok (.iload 4, 2) := by decide +kernel
theorem d_Rf_valueAt_120 : decode b_Rf_valueAt 120 = .ok (.iadd, 1) := by decide +kernel
theorem d_Rf_valueAt_121 : decode b_Rf_valueAt 121 = .ok (.iaload, 1) := by decide +kernel
theorem d_Rf_valueAt_122 : decode b_Rf_valueAt 122 = .ok (.ireturn, 1) := by decide +kernel
theorem d_Rf_isHere_0 : decode b_Rf_isHere 0 = .ok (.aload_n 0, 1) := by decide +kernel
theorem d_Rf_isHere_1 : decode b_Rf_isHere 1 = .ok (.iload_n 1, 1) := by decide +kernel
theorem d_Rf_isHere_2 : decode b_Rf_isHere 2 = .ok (.aload_n 0, 1) := by decide +kernel
theorem d_Rf_isHere_3 : decode b_Rf_isHere 3 = .ok (.getfield 39, 3) := by decide +kernel
theorem d_Rf_isHere_6 : decode b_Rf_isHere 6 = .ok (.iload_n 1, 1) := by decide +kernel
theorem d_Rf_isHere_7 : decode b_Rf_isHere 7 = .ok (.iaload, 1) := by decide +kernel
theorem d_Rf_isHere_8 : decode b_Rf_isHere 8 = .ok (.iload_n 2, 1) := by decide +kernel
theorem d_Rf_isHere_9 : decode b_Rf_isHere 9 = .ok (.invokevirtual 93, 3) := by decide +kernel
theorem d_Rf_isHere_12 : decode b_Rf_isHere 12 = .ok (.ireturn, 1) := by decide +kernel
theorem d_Rf_here1_0 : decode b_Rf_here1 0 = .ok (.aload_n 0, 1) := by decide +kernel
theorem d_Rf_here1_1 : decode b_Rf_here1 1 = .ok (.iload_n 1, 1) := by decide +kernel
theorem d_Rf_here1_2 : decode b_Rf_here1 2 = .ok (.aload_n 0, 1) := by decide +kernel
theorem d_Rf_here1_3 : decode b_Rf_here1 3 = .ok (.getfield 39, 3) := by decide +kernel
theorem d_Rf_here1_6 : decode b_Rf_here1 6 = .ok (.iload_n 1, 1) := by decide +kernel
theorem d_Rf_here1_7 : decode b_Rf_here1 7 = .ok (.iaload, 1) := by decide +kernel
theorem d_Rf_here1_8 : decode b_Rf_here1 8 = .ok (.iload_n 2, 1) := by decide +kernel
theorem d_Rf_here1_9 : decode b_Rf_here1 9 = .ok (.iload_n 3, 1) := by decide +kernel
theorem d_Rf_here1_10 : decode b_Rf_here1 10 = .ok (.invokevirtual 97, 3) := by decide +kernel
theorem d_Rf_here1_13 : decode b_Rf_here1 13 = .ok (.ireturn, 1) := by decide +kernel
theorem d_Rf_change_0 : decode b_Rf_change 0 = .ok (.aload_n 0, 1) := by decide +kernel
theorem d_Rf_change_1 : decode b_Rf_change 1 = .ok (.getfield 42, 3) := by decide +kernel
theorem d_Rf_change_4 : decode b_Rf_change 4 = .ok (.iload_n 1, 1) := by decide +kernel
theorem d_Rf_change_5 : decode b_Rf_change 5 = .ok (.iaload, 1) := by decide +kernel
theorem d_Rf_change_6 : decode b_Rf_change 6 = .ok (.istore 6, 2) := by decide +kernel
theorem d_Rf_change_8 : decode b_Rf_change 8 = .ok (.bipush 60, 2) := by decide +kernel
theorem d_Rf_change_10 : decode b_Rf_change 10 = .ok (.iload_n 1, 1) := by decide +kernel
theorem d_Rf_change_11 : decode b_Rf_change 11 = .ok (.imul, 1) := by decide +kernel
theorem d_Rf_change_12 : decode b_Rf_change 12 = .ok (.iload 6, 2) := by decide +kernel
theorem d_Rf_change_14 : decode b_Rf_change 14 = .ok (.iadd, 1) := by decide +kernel
theorem d_Rf_change_15 : decode b_Rf_change 15 = .ok (.istore 7, 2) := by decide +kernel
theorem d_Rf_change_17 : decode b_Rf_change 17 = .ok (.aload_n 0, 1) := by decide +kernel
theorem d_Rf_change_18 : decode b_Rf_change 18 = .ok (.getfield 51, 3) := by decide +kernel
theorem d_Rf_change_21 : decode b_Rf_change 21 = .ok (.iload 7, 2) := by decide +kernel
theorem d_Rf_change_23 : decode b_Rf_change 23 = .ok (.aload_n 0, 1) := by decide +kernel
theorem d_Rf_change_24 : decode b_Rf_change 24 = .ok (.getfield 39, 3) := by decide +kernel
theorem d_Rf_change_27 : decode b_Rf_change 27 = .ok (.iload_n 1, 1) := by decide +kernel
theorem d_Rf_change_28 : decode b_Rf_change 28 = .ok (.iaload, 1) := by decide +kernel
theorem d_Rf_change_29 : decode b_Rf_change 29 = .ok (.iastore, 1) := by decide +kernel
theorem d_Rf_change_30 : decode b_Rf_change 30 = .ok (.aload_n 0, 1) := by decide +kernel
theorem d_Rf_change_31 : decode b_Rf_change 31 = .ok (.getfield 54, 3) := by decide +kernel
theorem d_Rf_change_34 : decode b_Rf_change 34 = .ok (.iload 7, 2) := by decide +kernel
theorem d_Rf_change_36 : decode b_Rf_change 36 = .ok (.iconst (-1), 1) := by decide +kernel
theorem d_Rf_change_37 : decode b_Rf_change 37 = .ok (.iastore, 1) := by decide +kernel
theorem d_Rf_change_38 : decode b_Rf_change 38 = .ok (.aload_n 0, 1) := by decide +kernel
theorem d_Rf_change_39 : decode b_Rf_change 39 = .ok (.getfield 57, 3) := by decide +kernel
theorem d_Rf_change_42 : decode b_Rf_change 42 = .ok (.iload 7, 2) := by decide +kernel
theorem d_Rf_change_44 : decode b_Rf_change 44 = .ok (.iload_n 2, 1) := by decide +kernel
theorem d_Rf_change_45 : decode b_Rf_change 45 = .ok (.iastore, 1) := by decide +kernel
theorem d_Rf_change_46 : decode b_Rf_change 46 = .ok (.aload_n 0, 1) := by decide +kernel
theorem d_Rf_change_47 : decode b_Rf_change 47 = .ok (.getfield 60, 3) := by decide +kernel
theorem d_Rf_change_50 : decode b_Rf_change 50 = .ok (.iload 7, 2) := by decide +kernel
theorem d_Rf_change_52 : decode b_Rf_change 52 = .ok (.iload_n 3, 1) := by decide +kernel
theorem d_Rf_change_53 : decode b_Rf_change 53 = .ok (.iastore, 1) := by decide +kernel
theorem d_Rf_change_54 : decode b_Rf_change 54 = .ok (.aload_n 0, 1) := by decide +kernel
theorem d_Rf_change_55 : decode b_Rf_change 55 = .ok (.getfield 63, 3) := by decide +kernel
theorem d_Rf_change_58 : decode b_Rf_change 58 = .ok (.iload 7, 2) := by decide +kernel
theorem d_Rf_change_60 : decode b_Rf_change 60 = .ok (.iload 4, 2) := by decide +kernel
theorem d_Rf_change_62 : decode b_Rf_change 62 = .ok (.iastore, 1) := by decide +kernel
theorem d_Rf_change_63 : decode b_Rf_change 63 = .ok (.aload_n 0, 1) := by decide +kernel
theorem d_Rf_change_64 : decode b_Rf_change 64 = .ok (.getfield 66, 3) := by decide +kernel
theorem d_Rf_change_67 : decode b_Rf_change 67 = .ok (.iload 7, 2) := by decide +kernel
theorem d_Rf_change_69 : decode b_Rf_change 69 = .ok (.iload 5, 2) := by decide +kernel
theorem d_Rf_change_71 : decode b_Rf_change 71 = .ok (.iastore, 1) := by decide +kernel
theorem d_Rf_change_72 : decode b_Rf_change 72 = .ok (.aload_n 0, 1) := by decide +kernel
theorem d_Rf_change_73 : decode b_Rf_change 73 = .ok (.getfield 54, 3) := by decide +kernel
theorem d_Rf_change_76 : decode b_Rf_change 76 = .ok (.bipush 60, 2) := by decide +kernel
theorem d_Rf_change_78 : decode b_Rf_change 78 = .ok (.iload_n 1, 1) := by decide +kernel
theorem d_Rf_change_79 : decode b_Rf_change 79 = .ok (.imul, 1) := by decide +kernel
theorem d_Rf_change_80 : decode b_Rf_change 80 = .ok (.aload_n 0, 1) := by decide +kernel
theorem d_Rf_change_81 : decode b_Rf_change 81 = .ok (.getfield 39, 3) := by decide +kernel
theorem d_Rf_change_84 : decode b_Rf_change 84 = .ok (.iload_n 1, 1) := by decide +kernel
theorem d_Rf_change_85 : decode b_Rf_change 85 = .ok (.iaload, 1) := by decide +kernel
theorem d_Rf_change_86 : decode b_Rf_change 86 = .ok (.iadd, 1) := by decide +kernel
theorem d_Rf_change_87 : decode b_Rf_change 87 = .ok (.iload 6, 2) := by decide +kernel
theorem d_Rf_change_89 : decode b_Rf_change 89 = .ok (.iastore, 1) := by decide +kernel
theorem d_Rf_change_90 : decode b_Rf_change 90 = .ok (.aload_n 0, 1) := by decide +kernel
theorem d_Rf_change_91 : decode b_Rf_change 91 = .ok (.getfield 42, 3) := by decide +kernel
theorem d_Rf_change_94 : decode b_Rf_change 94 = .ok (.iload_n 1, 1) := by decide +kernel
theorem d_Rf_change_95 : decode b_Rf_change 95 = .ok (.dup2, 1) := by decide +kernel
theorem d_Rf_change_96 : decode b_Rf_change 96 = .ok (.iaload, 1) := by decide +kernel
theorem d_Rf_change_97 : decode b_Rf_change 97 = .ok (.iconst 1, 1) := by decide +kernel
theorem d_Rf_change_98 : decode b_Rf_change 98 = .ok (.iadd, 1) := by decide +kernel
theorem d_Rf_change_99 : decode b_Rf_change 99 = .ok (.iastore, 1) := by decide +kernel
theorem d_Rf_change_100 : decode b_Rf_change 100 = .ok (.aload_n 0, 1) := by decide +kernel
theorem d_Rf_change_101 : decode b_Rf_change 101 = .ok (.getfield 39, 3) := by decide +kernel
theorem d_Rf_change_104 : decode b_Rf_change 104 = .ok (.iload_n 1, 1) := by decide +kernel
theorem d_Rf_change_105 : decode b_Rf_change 105 = .ok (.iload 6, 2) := by decide +kernel
theorem d_Rf_change_107 : decode b_Rf_change 107 = .ok (.iastore, 1) := by decide +kernel
theorem d_Rf_change_108 : decode b_Rf_change 108 = .ok (.iload 6, 2) := by decide +kernel
theorem d_Rf_change_110 : decode b_Rf_change 110 = .ok (.ireturn, 1) := by decide +kernel
theorem d_Rf_session_0 : decode b_Rf_session 0 = .ok (.aload_n 0, 1) := by decide +kernel
theorem d_Rf_session_1 : decode b_Rf_session 1 = .ok (.iload_n 1, 1) := by decide +kernel
theorem d_Rf_session_2 : decode b_Rf_session 2 = .ok (.bipush 10, 2) := by decide +kernel
theorem d_Rf_session_4 : decode b_Rf_session 4 = .ok (.invokestatic 101, 3) := by decide +kernel
theorem d_Rf_session_7 : decode b_Rf_session 7 = .ok (.ifCond .eq 18, 3) := by decide +kernel
theorem d_Rf_session_10 : decode b_Rf_session 10 = .ok (.iload_n 2, 1) := by decide +kernel
theorem d_Rf_session_11 : decode b_Rf_session 11 = .ok (.aload_n 0, 1) := by decide +kernel
theorem d_Rf_session_12 : decode b_Rf_session 12 = .ok (.getfield 16, 3) := by decide +kernel
theorem d_Rf_session_15 : decode b_Rf_session 15 = .ok (.invokestatic 101, 3) := by decide +kernel
theorem d_Rf_session_18 : decode b_Rf_session 18 = .ok (.ifCond .eq 7, 3) := by decide +kernel
theorem d_Rf_session_21 : decode b_Rf_session 21 = .ok (.iconst 1, 1) := by decide +kernel
theorem d_Rf_session_22 : decode b_Rf_session 22 = .ok (.goto 4, 3) := by decide +kernel
theorem d_Rf_session_25 : decode b_Rf_session 25 = .ok (.iconst 0, 1) := by decide +kernel
theorem d_Rf_session_26 : decode b_Rf_session 26 = .ok (.aload_n 0, 1) := by decide +kernel
theorem d_Rf_session_27 : decode b_Rf_session 27 = .ok (.getfield 105, 3) := by decide +kernel
theorem d_Rf_session_30 : decode b_Rf_session 30 = .ok (.bipush 20, 2) := by decide +kernel
theorem d_Rf_session_32 : decode b_Rf_session 32 = .ok (.if_icmp .ge 7, 3) := by decide +kernel
theorem d_Rf_session_35 : decode b_Rf_session 35 = .ok (.iconst 1, 1) := by decide +kernel
theorem d_Rf_session_36 : decode b_Rf_session 36 = .ok (.goto 4, 3) := by decide +kernel
theorem d_Rf_session_39 : decode b_Rf_session 39 = .ok (.iconst 0, 1) := by decide +kernel
theorem d_Rf_session_40 : decode b_Rf_session 40 = .ok (.invokevirtual 108, 3) := by decide +kernel
theorem d_Rf_session_43 : decode b_Rf_session 43 = .ok (.ifCond .ne 5, 3) := by decide +kernel
theorem d_Rf_session_46 : decode b_Rf_session 46 = .ok (.iconst 0, 1) := by decide +kernel
theorem d_Rf_session_47 : decode b_Rf_session 47 = .ok (.ireturn, 1) := by decide +kernel
theorem d_Rf_session_48 : decode b_Rf_session 48 = .ok (.aload_n 0, 1) := by decide +kernel
theorem d_Rf_session_49 : decode b_Rf_session 49 = .ok (.getfield 33, 3) := by decide +kernel
theorem d_Rf_session_52 : decode b_Rf_session 52 = .ok (.aload_n 0, 1) := by decide +kernel
theorem d_Rf_session_53 : decode b_Rf_session 53 = .ok (.getfield 105, 3) := by decide +kernel
theorem d_Rf_session_56 : decode b_Rf_session 56 = .ok (.iload_n 1, 1) := by decide +kernel
theorem d_Rf_session_57 : decode b_Rf_session 57 = .ok (.iastore, 1) := by decide +kernel
theorem d_Rf_session_58 : decode b_Rf_session 58 = .ok (.aload_n 0, 1) := by decide +kernel
theorem d_Rf_session_59 : decode b_Rf_session 59 = .ok (.getfield 36, 3) := by decide +kernel
theorem d_Rf_session_62 : decode b_Rf_session 62 = .ok (.aload_n 0, 1) := by decide +kernel
theorem d_Rf_session_63 : decode b_Rf_session 63 = .ok (.getfield 105, 3) := by decide +kernel
theorem d_Rf_session_66 : decode b_Rf_session 66 = .ok (.iload_n 2, 1) := by decide +kernel
theorem d_Rf_session_67 : decode b_Rf_session 67 = .ok (.iastore, 1) := by decide +kernel
theorem d_Rf_session_68 : decode b_Rf_session 68 = .ok (.aload_n 0, 1) := by decide +kernel
theorem d_Rf_session_69 : decode b_Rf_session 69 = .ok (.getfield 42, 3) := by decide +kernel
theorem d_Rf_session_72 : decode b_Rf_session 72 = .ok (.aload_n 0, 1) := by decide +kernel
theorem d_Rf_session_73 : decode b_Rf_session 73 = .ok (.getfield 105, 3) := by decide +kernel
theorem d_Rf_session_76 : decode b_Rf_session 76 = .ok (.iconst 1, 1) := by decide +kernel
theorem d_Rf_session_77 : decode b_Rf_session 77 = .ok (.iastore, 1) := by decide +kernel
theorem d_Rf_session_78 : decode b_Rf_session 78 = .ok (.aload_n 0, 1) := by decide +kernel
theorem d_Rf_session_79 : decode b_Rf_session 79 = .ok (.getfield 51, 3) := by decide +kernel
theorem d_Rf_session_82 : decode b_Rf_session 82 = .ok (.bipush 60, 2) := by decide +kernel
theorem d_Rf_session_84 : decode b_Rf_session 84 = .ok (.aload_n 0, 1) := by decide +kernel
theorem d_Rf_session_85 : decode b_Rf_session 85 = .ok (.getfield 105, 3) := by decide +kernel
theorem d_Rf_session_88 : decode b_Rf_session 88 = .ok (.imul, 1) := by decide +kernel
theorem d_Rf_session_89 : decode b_Rf_session 89 = .ok (.iconst (-1), 1) := by decide +kernel
theorem d_Rf_session_90 : decode b_Rf_session 90 = .ok (.iastore, 1) := by decide +kernel
theorem d_Rf_session_91 : decode b_Rf_session 91 = .ok (.aload_n 0, 1) := by decide +kernel
theorem d_Rf_session_92 : decode b_Rf_session 92 = .ok (.getfield 54, 3) := by decide +kernel
theorem d_Rf_session_95 : decode b_Rf_session 95 = .ok (.bipush 60, 2) := by decide +kernel
theorem d_Rf_session_97 : decode b_Rf_session 97 = .ok (.aload_n 0, 1) := by decide +kernel
theorem d_Rf_session_98 : decode b_Rf_session 98 = .ok (.getfield 105, 3) := by decide +kernel
theorem d_Rf_session_101 : decode b_Rf_session 101 = .ok (.imul, 1) := by decide +kernel
theorem d_Rf_session_102 : decode b_Rf_session 102 = .ok (.iconst (-1), 1) := by decide +kernel
theorem d_Rf_session_103 : decode b_Rf_session 103 = .ok (.iastore, 1) := by decide +kernel
theorem d_Rf_session_104 : decode b_Rf_session 104 = .ok (.aload_n 0, 1) := by decide +kernel
theorem d_Rf_session_105 : decode b_Rf_session 105 = .ok (.getfield 48, 3) := by decide +kernel
theorem d_Rf_session_108 : decode b_Rf_session 108 = .ok (.aload_n 0, 1) := by decide +kernel
theorem d_Rf_session_109 : decode b_Rf_session 109 = .ok (.getfield 105, 3) := by decide +kernel
theorem d_Rf_session_112 : decode b_Rf_session 112 = .ok (.iconst (-1), 1) := by decide +kernel
theorem d_Rf_session_113 : decode b_Rf_session 113 = .ok (.iastore, 1) := by decide +kernel
theorem d_Rf_session_114 : decode b_Rf_session 114 = .ok (.aload_n 0, 1) := by decide +kernel
theorem d_Rf_session_115 : decode b_Rf_session 115 = .ok (.dup, 1) := by decide +kernel
theorem d_Rf_session_116 : decode b_Rf_session 116 = .ok (.getfield 105, 3) := by decide +kernel
theorem d_Rf_session_119 : decode b_Rf_session 119 = .ok (.iconst 1, 1) := by decide +kernel
theorem d_Rf_session_120 : decode b_Rf_session 120 = .ok (.iadd, 1) := by decide +kernel
theorem d_Rf_session_121 : decode b_Rf_session 121 = .ok (.putfield 105, 3) := by decide +kernel
theorem d_Rf_session_124 : decode b_Rf_session 124 = .ok (.aload_n 0, 1) := by decide +kernel
theorem d_Rf_session_125 : decode b_Rf_session 125 = .ok (.getfield 105, 3) := by decide +kernel
theorem d_Rf_session_128 : decode b_Rf_session 128 = .ok (.iconst 1, 1) := by decide +kernel
theorem d_Rf_session_129 : decode b_Rf_session 129 = .ok (.isub, 1) := by decide +kernel
theorem d_Rf_session_130 : decode b_Rf_session 130 = .ok (.ireturn, 1) := by decide +kernel
theorem d_Rf_isOpen_0 : decode b_Rf_isOpen 0 = .ok (.iload_n 1, 1) := by decide +kernel
theorem d_Rf_isOpen_1 : decode b_Rf_isOpen 1 = .ok (.aload_n 0, 1) := by decide +kernel
theorem d_Rf_isOpen_2 : decode b_Rf_isOpen 2 = .ok (.getfield 105, 3) := by decide +kernel
theorem d_Rf_isOpen_5 : decode b_Rf_isOpen 5 = .ok (.invokestatic 101, 3) := by decide +kernel
theorem d_Rf_isOpen_8 : decode b_Rf_isOpen 8 = .ok (.ifCond .eq 16, 3) := by decide +kernel
theorem d_Rf_isOpen_11 : decode b_Rf_isOpen 11 = .ok (.aload_n 0, 1) := by decide +kernel
theorem d_Rf_isOpen_12 : decode b_Rf_isOpen 12 = .ok (.getfield 45, 3) := by decide +kernel
theorem d_Rf_isOpen_15 : decode b_Rf_isOpen 15 = .ok (.iload_n 1, 1) := by decide +kernel
theorem d_Rf_isOpen_16 : decode b_Rf_isOpen 16 = .ok (.iaload, 1) := by decide +kernel
theorem d_Rf_isOpen_17 : decode b_Rf_isOpen 17 = .ok (.ifCond .ne 7, 3) := by decide +kernel
theorem d_Rf_isOpen_20 : decode b_Rf_isOpen 20 = .ok (.iconst 1, 1) := by decide +kernel
theorem d_Rf_isOpen_21 : decode b_Rf_isOpen 21 = .ok (.goto 4, 3) := by decide +kernel
theorem d_Rf_isOpen_24 : decode b_Rf_isOpen 24 = .ok (.iconst 0, 1) := by decide +kernel
theorem d_Rf_isOpen_25 : decode b_Rf_isOpen 25 = .ok (.ireturn, 1) := by decide +kernel
theorem d_Rf_make_0 : decode b_Rf_make 0 = .ok (.aload_n 0, 1) := by decide +kernel
theorem d_Rf_make_1 : decode b_Rf_make 1 = .ok (.iload_n 1, 1) := by decide +kernel
theorem d_Rf_make_2 : decode b_Rf_make 2 = .ok (.aload_n 0, 1) := by decide +kernel
theorem d_Rf_make_3 : decode b_Rf_make 3 = .ok (.getfield 105, 3) := by decide +kernel
theorem d_Rf_make_6 : decode b_Rf_make 6 = .ok (.invokestatic 101, 3) := by decide +kernel
theorem d_Rf_make_9 : decode b_Rf_make 9 = .ok (.ifCond .eq 15, 3) := by decide +kernel
theorem d_Rf_make_12 : decode b_Rf_make 12 = .ok (.iload_n 2, 1) := by decide +kernel
theorem d_Rf_make_13 : decode b_Rf_make 13 = .ok (.iconst 5, 1) := by decide +kernel
theorem d_Rf_make_14 : decode b_Rf_make 14 = .ok (.invokestatic 101, 3) := by decide +kernel
theorem d_Rf_make_17 : decode b_Rf_make 17 = .ok (.ifCond .eq 7, 3) := by decide +kernel
theorem d_Rf_make_20 : decode b_Rf_make 20 = .ok (.iconst 1, 1) := by decide +kernel
theorem d_Rf_make_21 : decode b_Rf_make 21 = .ok (.goto 4, 3) := by decide +kernel
theorem d_Rf_make_24 : decode b_Rf_make 24 = .ok (.iconst 0, 1) := by decide +kernel
theorem d_Rf_make_25 : decode b_Rf_make 25 = .ok (.aload_n 0, 1) := by decide +kernel
theorem d_Rf_make_26 : decode b_Rf_make 26 = .ok (.iload_n 1, 1) := by decide +kernel
theorem d_Rf_make_27 : decode b_Rf_make 27 = .ok (.invokevirtual 112, 3) := by decide +kernel
theorem d_Rf_make_30 : decode b_Rf_make 30 = .ok (.invokevirtual 108, 3) := by decide +kernel
theorem d_Rf_make_33 : decode b_Rf_make 33 = .ok (.ifCond .ne 5, 3) := by decide +kernel
theorem d_Rf_make_36 : decode b_Rf_make 36 = .ok (.iconst 0, 1) := by decide +kernel
theorem d_Rf_make_37 : decode b_Rf_make 37 = .ok (.ireturn, 1) := by decide +kernel
theorem d_Rf_make_38 : decode b_Rf_make 38 = .ok (.aload_n 0, 1) := by decide +kernel
theorem d_Rf_make_39 : decode b_Rf_make 39 = .ok (.getfield 116, 3) := by decide +kernel
theorem d_Rf_make_42 : decode b_Rf_make 42 = .ok (.bipush 60, 2) := by decide +kernel
theorem d_Rf_make_44 : decode b_Rf_make 44 = .ok (.if_icmp .eq 14, 3) := by decide +kernel
theorem d_Rf_make_47 : decode b_Rf_make 47 = .ok (.aload_n 0, 1) := by decide +kernel
theorem d_Rf_make_48 : decode b_Rf_make 48 = .ok (.getfield 42, 3) := by decide +kernel
theorem d_Rf_make_51 : decode b_Rf_make 51 = .ok (.iload_n 1, 1) := by decide +kernel
theorem d_Rf_make_52 : decode b_Rf_make 52 = .ok (.iaload, 1) := by decide +kernel
theorem d_Rf_make_53 : decode b_Rf_make 53 = .ok (.bipush 60, 2) := by decide +kernel
theorem d_Rf_make_55 : decode b_Rf_make 55 = .ok (.if_icmp .ne 6, 3) := by decide +kernel
theorem d_Rf_make_58 : decode b_Rf_make 58 = .ok (.bipush (-4), 2) := by decide +kernel
theorem d_Rf_make_60 : decode b_Rf_make 60 = .ok (.ireturn, 1) := by decide +kernel
theorem d_Rf_make_61 : decode b_Rf_make 61 = .ok (.aload_n 0, 1) := by decide +kernel
theorem d_Rf_make_62 : decode b_Rf_make 62 = .ok (.getfield 7, 3) := by decide +kernel
theorem d_Rf_make_65 : decode b_Rf_make 65 = .ok (.aload_n 0, 1) := by decide +kernel
theorem d_Rf_make_66 : decode b_Rf_make 66 = .ok (.getfield 116, 3) := by decide +kernel
theorem d_Rf_make_69 : decode b_Rf_make 69 = .ok (.iload_n 2, 1) := by decide +kernel
theorem d_Rf_make_70 : decode b_Rf_make 70 = .ok (.iastore, 1) := by decide +kernel
theorem d_Rf_make_71 : decode b_Rf_make 71 = .ok (.aload_n 0, 1) := by decide +kernel
theorem d_Rf_make_72 : decode b_Rf_make 72 = .ok (.getfield 13, 3) := by decide +kernel
theorem d_Rf_make_75 : decode b_Rf_make 75 = .ok (.aload_n 0, 1) := by decide +kernel
theorem d_Rf_make_76 : decode b_Rf_make 76 = .ok (.getfield 116, 3) := by decide +kernel
theorem d_Rf_make_79 : decode b_Rf_make 79 = .ok (.iconst (-1), 1) := by decide +kernel
theorem d_Rf_make_80 : decode b_Rf_make 80 = .ok (.iastore, 1) := by decide +kernel
theorem d_Rf_make_81 : decode b_Rf_make 81 = .ok (.aload_n 0, 1) := by decide +kernel
theorem d_Rf_make_82 : decode b_Rf_make 82 = .ok (.dup, 1) := by decide +kernel
theorem d_Rf_make_83 : decode b_Rf_make 83 = .ok (.getfield 116, 3) := by decide +kernel
theorem d_Rf_make_86 : decode b_Rf_make 86 = .ok (.iconst 1, 1) := by decide +kernel
theorem d_Rf_make_87 : decode b_Rf_make 87 = .ok (.iadd, 1) := by decide +kernel
theorem d_Rf_make_88 : decode b_Rf_make 88 = .ok (.putfield 116, 3) := by decide +kernel
theorem d_Rf_make_91 : decode b_Rf_make 91 = .ok (.aload_n 0, 1) := by decide +kernel
theorem d_Rf_make_92 : decode b_Rf_make 92 = .ok (.iload_n 1, 1) := by decide +kernel
theorem d_Rf_make_93 : decode b_Rf_make 93 = .ok (.iconst 1, 1) := by decide +kernel
theorem d_Rf_make_94 : decode b_Rf_make 94 = .ok (.aload_n 0, 1) := by decide +kernel
theorem d_Rf_make_95 : decode b_Rf_make 95 = .ok (.getfield 116, 3) := by decide +kernel
theorem d_Rf_make_98 : decode b_Rf_make 98 = .ok (.iconst 1, 1) := by decide +kernel
theorem d_Rf_make_99 : decode b_Rf_make 99 = .ok (.isub, 1) := by decide +kernel
theorem d_Rf_make_100 : decode b_Rf_make 100 = .ok (.iconst 0, 1) := by decide +kernel
theorem d_Rf_make_101 : decode b_Rf_make 101 = .ok (.iconst 0, 1) := by decide +kernel
theorem d_Rf_make_102 : decode b_Rf_make 102 = .ok (.invokevirtual 119, 3) := by decide +kernel
theorem d_Rf_make_105 : decode b_Rf_make 105 = .ok (.istore_n 3, 1) := by decide +kernel
theorem d_Rf_make_106 : decode b_Rf_make 106 = .ok (.aload_n 0, 1) := by decide +kernel
theorem d_Rf_make_107 : decode b_Rf_make 107 = .ok (.getfield 116, 3) := by decide +kernel
theorem d_Rf_make_110 : decode b_Rf_make 110 = .ok (.iconst 1, 1) := by decide +kernel
theorem d_Rf_make_111 : decode b_Rf_make 111 = .ok (.isub, 1) := by decide +kernel
theorem d_Rf_make_112 : decode b_Rf_make 112 = .ok (.ireturn, 1) := by decide +kernel
theorem d_Rf_barred_0 : decode b_Rf_barred 0 = .ok (.aload_n 0, 1) := by decide +kernel
theorem d_Rf_barred_1 : decode b_Rf_barred 1 = .ok (.iload_n 1, 1) := by decide +kernel
theorem d_Rf_barred_2 : decode b_Rf_barred 2 = .ok (.iload_n 2, 1) := by decide +kernel
theorem d_Rf_barred_3 : decode b_Rf_barred 3 = .ok (.invokevirtual 123, 3) := by decide +kernel
theorem d_Rf_barred_6 : decode b_Rf_barred 6 = .ok (.ifCond .ne 6, 3) := by decide +kernel
theorem d_Rf_barred_9 : decode b_Rf_barred 9 = .ok (.bipush (-3), 2) := by decide +kernel
theorem d_Rf_barred_11 : decode b_Rf_barred 11 = .ok (.ireturn, 1) := by decide +kernel
theorem d_Rf_barred_12 : decode b_Rf_barred 12 = .ok (.aload_n 0, 1) := by decide +kernel
theorem d_Rf_barred_13 : decode b_Rf_barred 13 = .ok (.getfield 13, 3) := by decide +kernel
theorem d_Rf_barred_16 : decode b_Rf_barred 16 = .ok (.iload_n 2, 1) := by decide +kernel
theorem d_Rf_barred_17 : decode b_Rf_barred 17 = .ok (.iaload, 1) := by decide +kernel
theorem d_Rf_barred_18 : decode b_Rf_barred 18 = .ok (.ifCond .lt 22, 3) := by decide +kernel
theorem d_Rf_barred_21 : decode b_Rf_barred 21 = .ok (.aload_n 0, 1) := by decide +kernel
theorem d_Rf_barred_22 : decode b_Rf_barred 22 = .ok (.getfield 13, 3) := by decide +kernel
theorem d_Rf_barred_25 : decode b_Rf_barred 25 = .ok (.iload_n 2, 1) := by decide +kernel
theorem d_Rf_barred_26 : decode b_Rf_barred 26 = .ok (.iaload, 1) := by decide +kernel
theorem d_Rf_barred_27 : decode b_Rf_barred 27 = .ok (.aload_n 0, 1) := by decide +kernel
theorem d_Rf_barred_28 : decode b_Rf_barred 28 = .ok (.getfield 33, 3) := by decide +kernel
theorem d_Rf_barred_31 : decode b_Rf_barred 31 = .ok (.iload_n 1, 1) := by decide +kernel
theorem d_Rf_barred_32 : decode b_Rf_barred 32 = .ok (.iaload, 1) := by decide +kernel
theorem d_Rf_barred_33 : decode b_Rf_barred 33 = .ok (.if_icmp .eq 7, 3) := by decide +kernel
theorem d_Rf_barred_36 : decode b_Rf_barred 36 = .ok (.iconst 1, 1) := by decide +kernel
theorem d_Rf_barred_37 : decode b_Rf_barred 37 = .ok (.goto 4, 3) := by decide +kernel
theorem d_Rf_barred_40 : decode b_Rf_barred 40 = .ok (.iconst 0, 1) := by decide +kernel
theorem d_Rf_barred_41 : decode b_Rf_barred 41 = .ok (.istore_n 3, 1) := by decide +kernel
theorem d_Rf_barred_42 : decode b_Rf_barred 42 = .ok (.iload_n 3, 1) := by decide +kernel
theorem d_Rf_barred_43 : decode b_Rf_barred 43 = .ok (.ifCond .eq 8, 3) := by decide +kernel
theorem d_Rf_barred_46 : decode b_Rf_barred 46 = .ok (.bipush (-2), 2) := by decide +kernel
theorem d_Rf_barred_48 : decode b_Rf_barred 48 = .ok (.goto 20, 3) := by decide +kernel
theorem d_Rf_barred_51 : decode b_Rf_barred 51 = .ok (.aload_n 0, 1) := by decide +kernel
theorem d_Rf_barred_52 : decode b_Rf_barred 52 = .ok (.getfield 42, 3) := by decide +kernel
theorem d_Rf_barred_55 : decode b_Rf_barred 55 = .ok (.iload_n 1, 1) := by decide +kernel
theorem d_Rf_barred_56 : decode b_Rf_barred 56 = .ok (.iaload, 1) := by decide +kernel
theorem d_Rf_barred_57 : decode b_Rf_barred 57 = .ok (.bipush 60, 2) := by decide +kernel
theorem d_Rf_barred_59 : decode b_Rf_barred 59 = .ok (.if_icmp .ne 8, 3) := by decide +kernel
theorem d_Rf_barred_62 : decode b_Rf_barred 62 = .ok (.bipush (-4), 2) := by decide +kernel
theorem d_Rf_barred_64 : decode b_Rf_barred 64 = .ok (.goto 4, 3) := by decide +kernel
theorem d_Rf_barred_67 : decode b_Rf_barred 67 = .ok (.iconst 0, 1) := by decide +kernel
theorem d_Rf_barred_68 : decode b_Rf_barred 68 = .ok (.ireturn, 1) := by decide +kernel
theorem d_Rf_set_0 : decode b_Rf_set 0 = .ok (.aload_n 0, 1) := by decide +kernel
theorem d_Rf_set_1 : decode b_Rf_set 1 = .ok (.iload_n 1, 1) := by decide +kernel
theorem d_Rf_set_2 : decode b_Rf_set 2 = .ok (.aload_n 0, 1) := by decide +kernel
theorem d_Rf_set_3 : decode b_Rf_set 3 = .ok (.getfield 105, 3) := by decide +kernel
theorem d_Rf_set_6 : decode b_Rf_set 6 = .ok (.invokestatic 101, 3) := by decide +kernel
theorem d_Rf_set_9 : decode b_Rf_set 9 = .ok (.ifCond .eq 26, 3) := by decide +kernel
theorem d_Rf_set_12 : decode b_Rf_set 12 = .ok (.iload_n 2, 1) := by decide +kernel
theorem d_Rf_set_13 : decode b_Rf_set 13 = .ok (.aload_n 0, 1) := by decide +kernel
theorem d_Rf_set_14 : decode b_Rf_set 14 = .ok (.getfield 116, 3) := by decide +kernel
theorem d_Rf_set_17 : decode b_Rf_set 17 = .ok (.invokestatic 101, 3) := by decide +kernel
theorem d_Rf_set_20 : decode b_Rf_set 20 = .ok (.ifCond .eq 15, 3) := by decide +kernel
theorem d_Rf_set_23 : decode b_Rf_set 23 = .ok (.iload_n 3, 1) := by decide +kernel
theorem d_Rf_set_24 : decode b_Rf_set 24 = .ok (.iconst 5, 1) := by decide +kernel
theorem d_Rf_set_25 : decode b_Rf_set 25 = .ok (.invokestatic 101, 3) := by decide +kernel
theorem d_Rf_set_28 : decode b_Rf_set 28 = .ok (.ifCond .eq 7, 3) := by decide +kernel
theorem d_Rf_set_31 : decode b_Rf_set 31 = .ok (.iconst 1, 1) := by decide +kernel
theorem d_Rf_set_32 : decode b_Rf_set 32 = .ok (.goto 4, 3) := by decide +kernel
theorem d_Rf_set_35 : decode b_Rf_set 35 = .ok (.iconst 0, 1) := by decide +kernel
theorem d_Rf_set_36 : decode b_Rf_set 36 = .ok (.aload_n 0, 1) := by decide +kernel
theorem d_Rf_set_37 : decode b_Rf_set 37 = .ok (.iload_n 1, 1) := by decide +kernel
theorem d_Rf_set_38 : decode b_Rf_set 38 = .ok (.invokevirtual 112, 3) := by decide +kernel
theorem d_Rf_set_41 : decode b_Rf_set 41 = .ok (.invokevirtual 108, 3) := by decide +kernel
theorem d_Rf_set_44 : decode b_Rf_set 44 = .ok (.ifCond .ne 5, 3) := by decide +kernel
theorem d_Rf_set_47 : decode b_Rf_set 47 = .ok (.iconst 0, 1) := by decide +kernel
theorem d_Rf_set_48 : decode b_Rf_set 48 = .ok (.ireturn, 1) := by decide +kernel
theorem d_Rf_set_49 : decode b_Rf_set 49 = .ok (.aload_n 0, 1) := by decide +kernel
theorem d_Rf_set_50 : decode b_Rf_set 50 = .ok (.iload_n 1, 1) := by decide +kernel
theorem d_Rf_set_51 : decode b_Rf_set 51 = .ok (.iload_n 2, 1) := by decide +kernel
theorem d_Rf_set_52 : decode b_Rf_set 52 = .ok (.invokevirtual 126, 3) := by decide +kernel
theorem d_Rf_set_55 : decode b_Rf_set 55 = .ok (.istore 5, 2) := by decide +kernel
theorem d_Rf_set_57 : decode b_Rf_set 57 = .ok (.iload 5, 2) := by decide +kernel
theorem d_Rf_set_59 : decode b_Rf_set 59 = .ok (.ifCond .ge 8, 3) := by decide +kernel
theorem d_Rf_set_62 : decode b_Rf_set 62 = .ok (.iload 5, 2) := by decide +kernel
theorem d_Rf_set_64 : decode b_Rf_set 64 = .ok (.goto 13, 3) := by decide +kernel
theorem d_Rf_set_67 : decode b_Rf_set 67 = .ok (.aload_n 0, 1) := by decide +kernel
theorem d_Rf_set_68 : decode b_Rf_set 68 = .ok (.iload_n 1, 1) := by decide +kernel
theorem d_Rf_set_69 : decode b_Rf_set 69 = .ok (.iconst 0, 1) := by decide +kernel
theorem d_Rf_set_70 : decode b_Rf_set 70 = .ok (.iload_n 2, 1) := by decide +kernel
theorem d_Rf_set_71 : decode b_Rf_set 71 = .ok (.iload_n 3, 1) := by decide +kernel
theorem d_Rf_set_72 : decode b_Rf_set 72 = .ok (.iload 4, 2) := by decide +kernel
theorem d_Rf_set_74 : decode b_Rf_set 74 = .ok (.invokevirtual 119, 3) := by decide +kernel
theorem d_Rf_set_77 : decode b_Rf_set 77 = .ok (.ireturn, 1) := by decide +kernel
theorem d_Rf_drop_0 : decode b_Rf_drop 0 = .ok (.aload_n 0, 1) := by decide +kernel
theorem d_Rf_drop_1 : decode b_Rf_drop 1 = .ok (.iload_n 1, 1) := by decide +kernel
theorem d_Rf_drop_2 : decode b_Rf_drop 2 = .ok (.aload_n 0, 1) := by decide +kernel
theorem d_Rf_drop_3 : decode b_Rf_drop 3 = .ok (.getfield 105, 3) := by decide +kernel
theorem d_Rf_drop_6 : decode b_Rf_drop 6 = .ok (.invokestatic 101, 3) := by decide +kernel
theorem d_Rf_drop_9 : decode b_Rf_drop 9 = .ok (.ifCond .eq 18, 3) := by decide +kernel
theorem d_Rf_drop_12 : decode b_Rf_drop 12 = .ok (.iload_n 2, 1) := by decide +kernel
theorem d_Rf_drop_13 : decode b_Rf_drop 13 = .ok (.aload_n 0, 1) := by decide +kernel
theorem d_Rf_drop_14 : decode b_Rf_drop 14 = .ok (.getfield 116, 3) := by decide +kernel
theorem d_Rf_drop_17 : decode b_Rf_drop 17 = .ok (.invokestatic 101, 3) := by decide +kernel
theorem d_Rf_drop_20 : decode b_Rf_drop 20 = .ok (.ifCond .eq 7, 3) := by decide +kernel
theorem d_Rf_drop_23 : decode b_Rf_drop 23 = .ok (.iconst 1, 1) := by decide +kernel
theorem d_Rf_drop_24 : decode b_Rf_drop 24 = .ok (.goto 4, 3) := by decide +kernel
theorem d_Rf_drop_27 : decode b_Rf_drop 27 = .ok (.iconst 0, 1) := by decide +kernel
theorem d_Rf_drop_28 : decode b_Rf_drop 28 = .ok (.aload_n 0, 1) := by decide +kernel
theorem d_Rf_drop_29 : decode b_Rf_drop 29 = .ok (.iload_n 1, 1) := by decide +kernel
theorem d_Rf_drop_30 : decode b_Rf_drop 30 = .ok (.invokevirtual 112, 3) := by decide +kernel
theorem d_Rf_drop_33 : decode b_Rf_drop 33 = .ok (.invokevirtual 108, 3) := by decide +kernel
theorem d_Rf_drop_36 : decode b_Rf_drop 36 = .ok (.ifCond .ne 5, 3) := by decide +kernel
theorem d_Rf_drop_39 : decode b_Rf_drop 39 = .ok (.iconst 0, 1) := by decide +kernel
theorem d_Rf_drop_40 : decode b_Rf_drop 40 = .ok (.ireturn, 1) := by decide +kernel
theorem d_Rf_drop_41 : decode b_Rf_drop 41 = .ok (.aload_n 0, 1) := by decide +kernel
theorem d_Rf_drop_42 : decode b_Rf_drop 42 = .ok (.iload_n 1, 1) := by decide +kernel
theorem d_Rf_drop_43 : decode b_Rf_drop 43 = .ok (.iload_n 2, 1) := by decide +kernel
theorem d_Rf_drop_44 : decode b_Rf_drop 44 = .ok (.invokevirtual 126, 3) := by decide +kernel
theorem d_Rf_drop_47 : decode b_Rf_drop 47 = .ok (.istore_n 3, 1) := by decide +kernel
theorem d_Rf_drop_48 : decode b_Rf_drop 48 = .ok (.iload_n 3, 1) := by decide +kernel
theorem d_Rf_drop_49 : decode b_Rf_drop 49 = .ok (.ifCond .ge 7, 3) := by decide +kernel
theorem d_Rf_drop_52 : decode b_Rf_drop 52 = .ok (.iload_n 3, 1) := by decide +kernel
theorem d_Rf_drop_53 : decode b_Rf_drop 53 = .ok (.goto 12, 3) := by decide +kernel
theorem d_Rf_drop_56 : decode b_Rf_drop 56 = .ok (.aload_n 0, 1) := by decide +kernel
theorem d_Rf_drop_57 : decode b_Rf_drop 57 = .ok (.iload_n 1, 1) := by decide +kernel
theorem d_Rf_drop_58 : decode b_Rf_drop 58 = .ok (.iconst 2, 1) := by decide +kernel
theorem d_Rf_drop_59 : decode b_Rf_drop 59 = .ok (.iload_n 2, 1) := by decide +kernel
theorem d_Rf_drop_60 : decode b_Rf_drop 60 = .ok (.iconst 0, 1) := by decide +kernel
theorem d_Rf_drop_61 : decode b_Rf_drop 61 = .ok (.iconst 0, 1) := by decide +kernel
theorem d_Rf_drop_62 : decode b_Rf_drop 62 = .ok (.invokevirtual 119, 3) := by decide +kernel
theorem d_Rf_drop_65 : decode b_Rf_drop 65 = .ok (.ireturn, 1) := by decide +kernel
theorem d_Rf_undo_0 : decode b_Rf_undo 0 = .ok (.aload_n 0, 1) := by decide +kernel
theorem d_Rf_undo_1 : decode b_Rf_undo 1 = .ok (.iload_n 1, 1) := by decide +kernel
theorem d_Rf_undo_2 : decode b_Rf_undo 2 = .ok (.aload_n 0, 1) := by decide +kernel
theorem d_Rf_undo_3 : decode b_Rf_undo 3 = .ok (.getfield 105, 3) := by decide +kernel
theorem d_Rf_undo_6 : decode b_Rf_undo 6 = .ok (.invokestatic 101, 3) := by decide +kernel
theorem d_Rf_undo_9 : decode b_Rf_undo 9 = .ok (.aload_n 0, 1) := by decide +kernel
theorem d_Rf_undo_10 : decode b_Rf_undo 10 = .ok (.iload_n 1, 1) := by decide +kernel
theorem d_Rf_undo_11 : decode b_Rf_undo 11 = .ok (.invokevirtual 112, 3) := by decide +kernel
theorem d_Rf_undo_14 : decode b_Rf_undo 14 = .ok (.invokevirtual 108, 3) := by decide +kernel
theorem d_Rf_undo_17 : decode b_Rf_undo 17 = .ok (.ifCond .ne 5, 3) := by decide +kernel
theorem d_Rf_undo_20 : decode b_Rf_undo 20 = .ok (.iconst 0, 1) := by decide +kernel
theorem d_Rf_undo_21 : decode b_Rf_undo 21 = .ok (.ireturn, 1) := by decide +kernel
theorem d_Rf_undo_22 : decode b_Rf_undo 22 = .ok (.aload_n 0, 1) := by decide +kernel
theorem d_Rf_undo_23 : decode b_Rf_undo 23 = .ok (.getfield 51, 3) := by decide +kernel
theorem d_Rf_undo_26 : decode b_Rf_undo 26 = .ok (.bipush 60, 2) := by decide +kernel
theorem d_Rf_undo_28 : decode b_Rf_undo 28 = .ok (.iload_n 1, 1) := by decide +kernel
theorem d_Rf_undo_29 : decode b_Rf_undo 29 = .ok (.imul, 1) := by decide +kernel
theorem d_Rf_undo_30 : decode b_Rf_undo 30 = .ok (.aload_n 0, 1) := by decide +kernel
theorem d_Rf_undo_31 : decode b_Rf_undo 31 = .ok (.getfield 39, 3) := by decide +kernel
theorem d_Rf_undo_34 : decode b_Rf_undo 34 = .ok (.iload_n 1, 1) := by decide +kernel
theorem d_Rf_undo_35 : decode b_Rf_undo 35 = .ok (.iaload, 1) := by decide +kernel
theorem d_Rf_undo_36 : decode b_Rf_undo 36 = .ok (.iadd, 1) := by decide +kernel
theorem d_Rf_undo_37 : decode b_Rf_undo 37 = .ok (.iaload, 1) := by decide +kernel
theorem d_Rf_undo_38 : decode b_Rf_undo 38 = .ok (.istore_n 2, 1) := by decide +kernel
theorem d_Rf_undo_39 : decode b_Rf_undo 39 = .ok (.aload_n 0, 1) := by decide +kernel
theorem d_Rf_undo_40 : decode b_Rf_undo 40 = .ok (.getfield 39, 3) := by decide +kernel
theorem d_Rf_undo_43 : decode b_Rf_undo 43 = .ok (.iload_n 1, 1) := by decide +kernel
theorem d_Rf_undo_44 : decode b_Rf_undo 44 = .ok (.iload_n 2, 1) := by decide +kernel
theorem d_Rf_undo_45 : decode b_Rf_undo 45 = .ok (.ifCond .ge 12, 3) := by decide +kernel
theorem d_Rf_undo_48 : decode b_Rf_undo 48 = .ok (.aload_n 0, 1) := by decide +kernel
theorem d_Rf_undo_49 : decode b_Rf_undo 49 = .ok (.getfield 39, 3) := by decide +kernel
theorem d_Rf_undo_52 : decode b_Rf_undo 52 = .ok (.iload_n 1, 1) := by decide +kernel
theorem d_Rf_undo_53 : decode b_Rf_undo 53 = .ok (.iaload, 1) := by decide +kernel
theorem d_Rf_undo_54 : decode b_Rf_undo 54 = .ok (.goto 4, 3) := by decide +kernel
theorem d_Rf_undo_57 : decode b_Rf_undo 57 = .ok (.iload_n 2, 1) := by decide +kernel
theorem d_Rf_undo_58 : decode b_Rf_undo 58 = .ok (.iastore, 1) := by decide +kernel
theorem d_Rf_undo_59 : decode b_Rf_undo 59 = .ok (.iload_n 2, 1) := by decide +kernel
theorem d_Rf_undo_60 : decode b_Rf_undo 60 = .ok (.ireturn, 1) := by decide +kernel
theorem d_Rf_redo_0 : decode b_Rf_redo 0 = .ok (.aload_n 0, 1) := by decide +kernel
theorem d_Rf_redo_1 : decode b_Rf_redo 1 = .ok (.iload_n 1, 1) := by decide +kernel
theorem d_Rf_redo_2 : decode b_Rf_redo 2 = .ok (.aload_n 0, 1) := by decide +kernel
theorem d_Rf_redo_3 : decode b_Rf_redo 3 = .ok (.getfield 105, 3) := by decide +kernel
theorem d_Rf_redo_6 : decode b_Rf_redo 6 = .ok (.invokestatic 101, 3) := by decide +kernel
theorem d_Rf_redo_9 : decode b_Rf_redo 9 = .ok (.aload_n 0, 1) := by decide +kernel
theorem d_Rf_redo_10 : decode b_Rf_redo 10 = .ok (.iload_n 1, 1) := by decide +kernel
theorem d_Rf_redo_11 : decode b_Rf_redo 11 = .ok (.invokevirtual 112, 3) := by decide +kernel
theorem d_Rf_redo_14 : decode b_Rf_redo 14 = .ok (.invokevirtual 108, 3) := by decide +kernel
theorem d_Rf_redo_17 : decode b_Rf_redo 17 = .ok (.ifCond .ne 5, 3) := by decide +kernel
theorem d_Rf_redo_20 : decode b_Rf_redo 20 = .ok (.iconst 0, 1) := by decide +kernel
theorem d_Rf_redo_21 : decode b_Rf_redo 21 = .ok (.ireturn, 1) := by decide +kernel
theorem d_Rf_redo_22 : decode b_Rf_redo 22 = .ok (.aload_n 0, 1) := by decide +kernel
theorem d_Rf_redo_23 : decode b_Rf_redo 23 = .ok (.getfield 54, 3) := by decide +kernel
theorem d_Rf_redo_26 : decode b_Rf_redo 26 = .ok (.bipush 60, 2) := by decide +kernel
theorem d_Rf_redo_28 : decode b_Rf_redo 28 = .ok (.iload_n 1, 1) := by decide +kernel
theorem d_Rf_redo_29 : decode b_Rf_redo 29 = .ok (.imul, 1) := by decide +kernel
theorem d_Rf_redo_30 : decode b_Rf_redo 30 = .ok (.aload_n 0, 1) := by decide +kernel
theorem d_Rf_redo_31 : decode b_Rf_redo 31 = .ok (.getfield 39, 3) := by decide +kernel
theorem d_Rf_redo_34 : decode b_Rf_redo 34 = .ok (.iload_n 1, 1) := by decide +kernel
theorem d_Rf_redo_35 : decode b_Rf_redo 35 = .ok (.iaload, 1) := by decide +kernel
theorem d_Rf_redo_36 : decode b_Rf_redo 36 = .ok (.iadd, 1) := by decide +kernel
theorem d_Rf_redo_37 : decode b_Rf_redo 37 = .ok (.iaload, 1) := by decide +kernel
theorem d_Rf_redo_38 : decode b_Rf_redo 38 = .ok (.istore_n 2, 1) := by decide +kernel
theorem d_Rf_redo_39 : decode b_Rf_redo 39 = .ok (.aload_n 0, 1) := by decide +kernel
theorem d_Rf_redo_40 : decode b_Rf_redo 40 = .ok (.getfield 39, 3) := by decide +kernel
theorem d_Rf_redo_43 : decode b_Rf_redo 43 = .ok (.iload_n 1, 1) := by decide +kernel
theorem d_Rf_redo_44 : decode b_Rf_redo 44 = .ok (.iload_n 2, 1) := by decide +kernel
theorem d_Rf_redo_45 : decode b_Rf_redo 45 = .ok (.ifCond .ge 12, 3) := by decide +kernel
theorem d_Rf_redo_48 : decode b_Rf_redo 48 = .ok (.aload_n 0, 1) := by decide +kernel
theorem d_Rf_redo_49 : decode b_Rf_redo 49 = .ok (.getfield 39, 3) := by decide +kernel
theorem d_Rf_redo_52 : decode b_Rf_redo 52 = .ok (.iload_n 1, 1) := by decide +kernel
theorem d_Rf_redo_53 : decode b_Rf_redo 53 = .ok (.iaload, 1) := by decide +kernel
theorem d_Rf_redo_54 : decode b_Rf_redo 54 = .ok (.goto 4, 3) := by decide +kernel
theorem d_Rf_redo_57 : decode b_Rf_redo 57 = .ok (.iload_n 2, 1) := by decide +kernel
theorem d_Rf_redo_58 : decode b_Rf_redo 58 = .ok (.iastore, 1) := by decide +kernel
theorem d_Rf_redo_59 : decode b_Rf_redo 59 = .ok (.iload_n 2, 1) := by decide +kernel
theorem d_Rf_redo_60 : decode b_Rf_redo 60 = .ok (.ireturn, 1) := by decide +kernel
theorem d_Rf_lock_0 : decode b_Rf_lock 0 = .ok (.aload_n 0, 1) := by decide +kernel
theorem d_Rf_lock_1 : decode b_Rf_lock 1 = .ok (.iload_n 1, 1) := by decide +kernel
theorem d_Rf_lock_2 : decode b_Rf_lock 2 = .ok (.aload_n 0, 1) := by decide +kernel
theorem d_Rf_lock_3 : decode b_Rf_lock 3 = .ok (.getfield 116, 3) := by decide +kernel
theorem d_Rf_lock_6 : decode b_Rf_lock 6 = .ok (.invokestatic 101, 3) := by decide +kernel
theorem d_Rf_lock_9 : decode b_Rf_lock 9 = .ok (.ifCond .eq 21, 3) := by decide +kernel
theorem d_Rf_lock_12 : decode b_Rf_lock 12 = .ok (.iload_n 2, 1) := by decide +kernel
theorem d_Rf_lock_13 : decode b_Rf_lock 13 = .ok (.iconst (-1), 1) := by decide +kernel
theorem d_Rf_lock_14 : decode b_Rf_lock 14 = .ok (.if_icmp .eq 12, 3) := by decide +kernel
theorem d_Rf_lock_17 : decode b_Rf_lock 17 = .ok (.iload_n 2, 1) := by decide +kernel
theorem d_Rf_lock_18 : decode b_Rf_lock 18 = .ok (.bipush 10, 2) := by decide +kernel
theorem d_Rf_lock_20 : decode b_Rf_lock 20 = .ok (.invokestatic 101, 3) := by decide +kernel
theorem d_Rf_lock_23 : decode b_Rf_lock 23 = .ok (.ifCond .eq 7, 3) := by decide +kernel
theorem d_Rf_lock_26 : decode b_Rf_lock 26 = .ok (.iconst 1, 1) := by decide +kernel
theorem d_Rf_lock_27 : decode b_Rf_lock 27 = .ok (.goto 4, 3) := by decide +kernel
theorem d_Rf_lock_30 : decode b_Rf_lock 30 = .ok (.iconst 0, 1) := by decide +kernel
theorem d_Rf_lock_31 : decode b_Rf_lock 31 = .ok (.iconst 1, 1) := by decide +kernel
theorem d_Rf_lock_32 : decode b_Rf_lock 32 = .ok (.invokevirtual 108, 3) := by decide +kernel
theorem d_Rf_lock_35 : decode b_Rf_lock 35 = .ok (.ifCond .ne 5, 3) := by decide +kernel
theorem d_Rf_lock_38 : decode b_Rf_lock 38 = .ok (.iconst 0, 1) := by decide +kernel
theorem d_Rf_lock_39 : decode b_Rf_lock 39 = .ok (.ireturn, 1) := by decide +kernel
theorem d_Rf_lock_40 : decode b_Rf_lock 40 = .ok (.aload_n 0, 1) := by decide +kernel
theorem d_Rf_lock_41 : decode b_Rf_lock 41 = .ok (.getfield 13, 3) := by decide +kernel
theorem d_Rf_lock_44 : decode b_Rf_lock 44 = .ok (.iload_n 1, 1) := by decide +kernel
theorem d_Rf_lock_45 : decode b_Rf_lock 45 = .ok (.iaload, 1) := by decide +kernel
theorem d_Rf_lock_46 : decode b_Rf_lock 46 = .ok (.istore_n 3, 1) := by decide +kernel
theorem d_Rf_lock_47 : decode b_Rf_lock 47 = .ok (.aload_n 0, 1) := by decide +kernel
theorem d_Rf_lock_48 : decode b_Rf_lock 48 = .ok (.getfield 13, 3) := by decide +kernel
theorem d_Rf_lock_51 : decode b_Rf_lock 51 = .ok (.iload_n 1, 1) := by decide +kernel
theorem d_Rf_lock_52 : decode b_Rf_lock 52 = .ok (.iload_n 2, 1) := by decide +kernel
theorem d_Rf_lock_53 : decode b_Rf_lock 53 = .ok (.iastore, 1) := by decide +kernel
theorem d_Rf_lock_54 : decode b_Rf_lock 54 = .ok (.iload_n 3, 1) := by decide +kernel
theorem d_Rf_lock_55 : decode b_Rf_lock 55 = .ok (.ireturn, 1) := by decide +kernel
theorem d_Rf_rule_0 : decode b_Rf_rule 0 = .ok (.aload_n 0, 1) := by decide +kernel
theorem d_Rf_rule_1 : decode b_Rf_rule 1 = .ok (.iload_n 1, 1) := by decide +kernel
theorem d_Rf_rule_2 : decode b_Rf_rule 2 = .ok (.iconst 5, 1) := by decide +kernel
theorem d_Rf_rule_3 : decode b_Rf_rule 3 = .ok (.invokestatic 101, 3) := by decide +kernel
theorem d_Rf_rule_6 : decode b_Rf_rule 6 = .ok (.ifCond .eq 23, 3) := by decide +kernel
theorem d_Rf_rule_9 : decode b_Rf_rule 9 = .ok (.iload_n 2, 1) := by decide +kernel
theorem d_Rf_rule_10 : decode b_Rf_rule 10 = .ok (.iconst 5, 1) := by decide +kernel
theorem d_Rf_rule_11 : decode b_Rf_rule 11 = .ok (.invokestatic 101, 3) := by decide +kernel
theorem d_Rf_rule_14 : decode b_Rf_rule 14 = .ok (.ifCond .eq 15, 3) := by decide +kernel
theorem d_Rf_rule_17 : decode b_Rf_rule 17 = .ok (.iload_n 3, 1) := by decide +kernel
theorem d_Rf_rule_18 : decode b_Rf_rule 18 = .ok (.iconst 5, 1) := by decide +kernel
theorem d_Rf_rule_19 : decode b_Rf_rule 19 = .ok (.invokestatic 101, 3) := by decide +kernel
theorem d_Rf_rule_22 : decode b_Rf_rule 22 = .ok (.ifCond .eq 7, 3) := by decide +kernel
theorem d_Rf_rule_25 : decode b_Rf_rule 25 = .ok (.iconst 1, 1) := by decide +kernel
theorem d_Rf_rule_26 : decode b_Rf_rule 26 = .ok (.goto 4, 3) := by decide +kernel
theorem d_Rf_rule_29 : decode b_Rf_rule 29 = .ok (.iconst 0, 1) := by decide +kernel
theorem d_Rf_rule_30 : decode b_Rf_rule 30 = .ok (.aload_n 0, 1) := by decide +kernel
theorem d_Rf_rule_31 : decode b_Rf_rule 31 = .ok (.getfield 130, 3) := by decide +kernel
theorem d_Rf_rule_34 : decode b_Rf_rule 34 = .ok (.bipush 10, 2) := by decide +kernel
theorem d_Rf_rule_36 : decode b_Rf_rule 36 = .ok (.if_icmp .ge 7, 3) := by decide +kernel
theorem d_Rf_rule_39 : decode b_Rf_rule 39 = .ok (.iconst 1, 1) := by decide +kernel
theorem d_Rf_rule_40 : decode b_Rf_rule 40 = .ok (.goto 4, 3) := by decide +kernel
theorem d_Rf_rule_43 : decode b_Rf_rule 43 = .ok (.iconst 0, 1) := by decide +kernel
theorem d_Rf_rule_44 : decode b_Rf_rule 44 = .ok (.invokevirtual 108, 3) := by decide +kernel
theorem d_Rf_rule_47 : decode b_Rf_rule 47 = .ok (.ifCond .ne 5, 3) := by decide +kernel
theorem d_Rf_rule_50 : decode b_Rf_rule 50 = .ok (.iconst 0, 1) := by decide +kernel
theorem d_Rf_rule_51 : decode b_Rf_rule 51 = .ok (.ireturn, 1) := by decide +kernel
theorem d_Rf_rule_52 : decode b_Rf_rule 52 = .ok (.aload_n 0, 1) := by decide +kernel
theorem d_Rf_rule_53 : decode b_Rf_rule 53 = .ok (.getfield 69, 3) := by decide +kernel
theorem d_Rf_rule_56 : decode b_Rf_rule 56 = .ok (.aload_n 0, 1) := by decide +kernel
theorem d_Rf_rule_57 : decode b_Rf_rule 57 = .ok (.getfield 130, 3) := by decide +kernel
theorem d_Rf_rule_60 : decode b_Rf_rule 60 = .ok (.iload_n 1, 1) := by decide +kernel
theorem d_Rf_rule_61 : decode b_Rf_rule 61 = .ok (.iastore, 1) := by decide +kernel
theorem d_Rf_rule_62 : decode b_Rf_rule 62 = .ok (.aload_n 0, 1) := by decide +kernel
theorem d_Rf_rule_63 : decode b_Rf_rule 63 = .ok (.getfield 72, 3) := by decide +kernel
theorem d_Rf_rule_66 : decode b_Rf_rule 66 = .ok (.aload_n 0, 1) := by decide +kernel
theorem d_Rf_rule_67 : decode b_Rf_rule 67 = .ok (.getfield 130, 3) := by decide +kernel
theorem d_Rf_rule_70 : decode b_Rf_rule 70 = .ok (.iload_n 2, 1) := by decide +kernel
theorem d_Rf_rule_71 : decode b_Rf_rule 71 = .ok (.iastore, 1) := by decide +kernel
theorem d_Rf_rule_72 : decode b_Rf_rule 72 = .ok (.aload_n 0, 1) := by decide +kernel
theorem d_Rf_rule_73 : decode b_Rf_rule 73 = .ok (.getfield 75, 3) := by decide +kernel
theorem d_Rf_rule_76 : decode b_Rf_rule 76 = .ok (.aload_n 0, 1) := by decide +kernel
theorem d_Rf_rule_77 : decode b_Rf_rule 77 = .ok (.getfield 130, 3) := by decide +kernel
theorem d_Rf_rule_80 : decode b_Rf_rule 80 = .ok (.iload_n 3, 1) := by decide +kernel
theorem d_Rf_rule_81 : decode b_Rf_rule 81 = .ok (.iastore, 1) := by decide +kernel
theorem d_Rf_rule_82 : decode b_Rf_rule 82 = .ok (.aload_n 0, 1) := by decide +kernel
theorem d_Rf_rule_83 : decode b_Rf_rule 83 = .ok (.dup, 1) := by decide +kernel
theorem d_Rf_rule_84 : decode b_Rf_rule 84 = .ok (.getfield 130, 3) := by decide +kernel
theorem d_Rf_rule_87 : decode b_Rf_rule 87 = .ok (.iconst 1, 1) := by decide +kernel
theorem d_Rf_rule_88 : decode b_Rf_rule 88 = .ok (.iadd, 1) := by decide +kernel
theorem d_Rf_rule_89 : decode b_Rf_rule 89 = .ok (.putfield 130, 3) := by decide +kernel
theorem d_Rf_rule_92 : decode b_Rf_rule 92 = .ok (.aload_n 0, 1) := by decide +kernel
theorem d_Rf_rule_93 : decode b_Rf_rule 93 = .ok (.getfield 130, 3) := by decide +kernel
theorem d_Rf_rule_96 : decode b_Rf_rule 96 = .ok (.iconst 1, 1) := by decide +kernel
theorem d_Rf_rule_97 : decode b_Rf_rule 97 = .ok (.isub, 1) := by decide +kernel
theorem d_Rf_rule_98 : decode b_Rf_rule 98 = .ok (.ireturn, 1) := by decide +kernel
theorem d_Rf_mine_0 : decode b_Rf_mine 0 = .ok (.bipush 60, 2) := by decide +kernel
theorem d_Rf_mine_2 : decode b_Rf_mine 2 = .ok (.aload_n 0, 1) := by decide +kernel
theorem d_Rf_mine_3 : decode b_Rf_mine 3 = .ok (.getfield 16, 3) := by decide +kernel
theorem d_Rf_mine_6 : decode b_Rf_mine 6 = .ok (.iconst 1, 1) := by decide +kernel
theorem d_Rf_mine_7 : decode b_Rf_mine 7 = .ok (.isub, 1) := by decide +kernel
theorem d_Rf_mine_8 : decode b_Rf_mine 8 = .ok (.imul, 1) := by decide +kernel
theorem d_Rf_mine_9 : decode b_Rf_mine 9 = .ok (.iload_n 1, 1) := by decide +kernel
theorem d_Rf_mine_10 : decode b_Rf_mine 10 = .ok (.iadd, 1) := by decide +kernel
theorem d_Rf_mine_11 : decode b_Rf_mine 11 = .ok (.ireturn, 1) := by decide +kernel
