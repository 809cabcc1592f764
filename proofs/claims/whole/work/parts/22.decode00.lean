theorem d_MM_init_0 : decode b_MM_init 0 = .ok (.aload_n 0, 1) := by decide +kernel
theorem d_MM_init_1 : decode b_MM_init 1 = .ok (.invokespecial 3, 3) := by decide +kernel
theorem d_MM_init_4 : decode b_MM_init 4 = .ok (.aload_n 0, 1) := by decide +kernel
theorem d_MM_init_5 : decode b_MM_init 5 = .ok (.bipush 60, 2) := by decide +kernel
theorem d_MM_init_7 : decode b_MM_init 7 = .ok (.newarray .int, 2) := by decide +kernel
theorem d_MM_init_9 : decode b_MM_init 9 = .ok (.putfield 9, 3) := by decide +kernel
theorem d_MM_init_12 : decode b_MM_init 12 = .ok (.aload_n 0, 1) := by decide +kernel
theorem d_MM_init_13 : decode b_MM_init 13 = .ok (.bipush 60, 2) := by decide +kernel
theorem d_MM_init_15 : decode b_MM_init 15 = .ok (.newarray .int, 2) := by decide +kernel
theorem d_MM_init_17 : decode b_MM_init 17 = .ok (.putfield 13, 3) := by decide +kernel
theorem d_MM_init_20 : decode b_MM_init 20 = .ok (.aload_n 0, 1) := by decide +kernel
theorem d_MM_init_21 : decode b_MM_init 21 = .ok (.iconst 0, 1) := by decide +kernel
theorem d_MM_init_22 : decode b_MM_init 22 = .ok (.putfield 16, 3) := by decide +kernel
theorem d_MM_init_25 : decode b_MM_init 25 = .ok (.aload_n 0, 1) := by decide +kernel
theorem d_MM_init_26 : decode b_MM_init 26 = .ok (.bipush 20, 2) := by decide +kernel
theorem d_MM_init_28 : decode b_MM_init 28 = .ok (.anewarray 20, 3) := by decide +kernel
theorem d_MM_init_31 : decode b_MM_init 31 = .ok (.putfield 22, 3) := by decide +kernel
theorem d_MM_init_34 : decode b_MM_init 34 = .ok (.aload_n 0, 1) := by decide +kernel
theorem d_MM_init_35 : decode b_MM_init 35 = .ok (.iconst 0, 1) := by decide +kernel
theorem d_MM_init_36 : decode b_MM_init 36 = .ok (.putfield 26, 3) := by decide +kernel
theorem d_MM_init_39 : decode b_MM_init 39 = .ok (.aload_n 0, 1) := by decide +kernel
theorem d_MM_init_40 : decode b_MM_init 40 = .ok (.bipush 40, 2) := by decide +kernel
theorem d_MM_init_42 : decode b_MM_init 42 = .ok (.anewarray 29, 3) := by decide +kernel
theorem d_MM_init_45 : decode b_MM_init 45 = .ok (.putfield 31, 3) := by decide +kernel
theorem d_MM_init_48 : decode b_MM_init 48 = .ok (.aload_n 0, 1) := by decide +kernel
theorem d_MM_init_49 : decode b_MM_init 49 = .ok (.iconst 0, 1) := by decide +kernel
theorem d_MM_init_50 : decode b_MM_init 50 = .ok (.putfield 35, 3) := by decide +kernel
theorem d_MM_init_53 : decode b_MM_init 53 = .ok (.aload_n 0, 1) := by decide +kernel
theorem d_MM_init_54 : decode b_MM_init 54 = .ok (.bipush 10, 2) := by decide +kernel
theorem d_MM_init_56 : decode b_MM_init 56 = .ok (.anewarray 38, 3) := by decide +kernel
theorem d_MM_init_59 : decode b_MM_init 59 = .ok (.putfield 40, 3) := by decide +kernel
theorem d_MM_init_62 : decode b_MM_init 62 = .ok (.aload_n 0, 1) := by decide +kernel
theorem d_MM_init_63 : decode b_MM_init 63 = .ok (.iconst 0, 1) := by decide +kernel
theorem d_MM_init_64 : decode b_MM_init 64 = .ok (.putfield 44, 3) := by decide +kernel
theorem d_MM_init_67 : decode b_MM_init 67 = .ok (.aload_n 0, 1) := by decide +kernel
theorem d_MM_init_68 : decode b_MM_init 68 = .ok (.new 47, 3) := by decide +kernel
theorem d_MM_init_71 : decode b_MM_init 71 = .ok (.dup, 1) := by decide +kernel
theorem d_MM_init_72 : decode b_MM_init 72 = .ok (.invokespecial 49, 3) := by decide +kernel
theorem d_MM_init_75 : decode b_MM_init 75 = .ok (.putfield 50, 3) := by decide +kernel
theorem d_MM_init_78 : decode b_MM_init 78 = .ok (.aload_n 0, 1) := by decide +kernel
theorem d_MM_init_79 : decode b_MM_init 79 = .ok (.aconst_null, 1) := by decide +kernel
theorem d_MM_init_80 : decode b_MM_init 80 = .ok (.putfield 54, 3) := by decide +kernel
theorem d_MM_init_83 : decode b_MM_init 83 = .ok (.aload_n 0, 1) := by decide +kernel
theorem d_MM_init_84 : decode b_MM_init 84 = .ok (.new 29, 3) := by decide +kernel
theorem d_MM_init_87 : decode b_MM_init 87 = .ok (.dup, 1) := by decide +kernel
theorem d_MM_init_88 : decode b_MM_init 88 = .ok (.iconst 0, 1) := by decide +kernel
theorem d_MM_init_89 : decode b_MM_init 89 = .ok (.iconst (-1), 1) := by decide +kernel
theorem d_MM_init_90 : decode b_MM_init 90 = .ok (.new 58, 3) := by decide +kernel
theorem d_MM_init_93 : decode b_MM_init 93 = .ok (.dup, 1) := by decide +kernel
theorem d_MM_init_94 : decode b_MM_init 94 = .ok (.invokespecial 60, 3) := by decide +kernel
theorem d_MM_init_97 : decode b_MM_init 97 = .ok (.invokespecial 61, 3) := by decide +kernel
theorem d_MM_init_100 : decode b_MM_init 100 = .ok (.putfield 64, 3) := by decide +kernel
theorem d_MM_init_103 : decode b_MM_init 103 = .ok (.aload_n 0, 1) := by decide +kernel
theorem d_MM_init_104 : decode b_MM_init 104 = .ok (.getfield 31, 3) := by decide +kernel
theorem d_MM_init_107 : decode b_MM_init 107 = .ok (.iconst 0, 1) := by decide +kernel
theorem d_MM_init_108 : decode b_MM_init 108 = .ok (.aload_n 0, 1) := by decide +kernel
theorem d_MM_init_109 : decode b_MM_init 109 = .ok (.getfield 64, 3) := by decide +kernel
theorem d_MM_init_112 : decode b_MM_init 112 = .ok (.aastore, 1) := by decide +kernel
theorem d_MM_init_113 : decode b_MM_init 113 = .ok (.aload_n 0, 1) := by decide +kernel
theorem d_MM_init_114 : decode b_MM_init 114 = .ok (.iconst 1, 1) := by decide +kernel
theorem d_MM_init_115 : decode b_MM_init 115 = .ok (.putfield 35, 3) := by decide +kernel
theorem d_MM_init_118 : decode b_MM_init 118 = .ok (.return_, 1) := by decide +kernel
theorem d_MM_session_0 : decode b_MM_session 0 = .ok (.iload_n 1, 1) := by decide +kernel
theorem d_MM_session_1 : decode b_MM_session 1 = .ok (.bipush 10, 2) := by decide +kernel
theorem d_MM_session_3 : decode b_MM_session 3 = .ok (.invokestatic 68, 3) := by decide +kernel
theorem d_MM_session_6 : decode b_MM_session 6 = .ok (.aload_n 0, 1) := by decide +kernel
theorem d_MM_session_7 : decode b_MM_session 7 = .ok (.iload_n 2, 1) := by decide +kernel
theorem d_MM_session_8 : decode b_MM_session 8 = .ok (.invokevirtual 72, 3) := by decide +kernel
theorem d_MM_session_11 : decode b_MM_session 11 = .ok (.astore_n 3, 1) := by decide +kernel
theorem d_MM_session_12 : decode b_MM_session 12 = .ok (.aload_n 0, 1) := by decide +kernel
theorem d_MM_session_13 : decode b_MM_session 13 = .ok (.getfield 26, 3) := by decide +kernel
theorem d_MM_session_16 : decode b_MM_session 16 = .ok (.bipush 20, 2) := by decide +kernel
theorem d_MM_session_18 : decode b_MM_session 18 = .ok (.if_icmp .lt 13, 3) := by decide +kernel
theorem d_MM_session_21 : decode b_MM_session 21 = .ok (.new 76, 3) := by decide +kernel
theorem d_MM_session_24 : decode b_MM_session 24 = .ok (.dup, 1) := by decide +kernel
theorem d_MM_session_25 : decode b_MM_session 25 = .ok (.ldc 78, 2) := by decide +kernel
theorem d_MM_session_27 : decode b_MM_session 27 = .ok (.invokespecial 80, 3) := by decide +kernel
theorem d_MM_session_30 : decode b_MM_session 30 = .ok (.athrow, 1) := by decide +kernel
theorem d_MM_session_31 : decode b_MM_session 31 = .ok (.aload_n 0, 1) := by decide +kernel
theorem d_MM_session_32 : decode b_MM_session 32 = .ok (.getfield 26, 3) := by decide +kernel
theorem d_MM_session_35 : decode b_MM_session 35 = .ok (.istore 4, 2) := by decide +kernel
theorem d_MM_session_37 : decode b_MM_session 37 = .ok (.aload_n 0, 1) := by decide +kernel
theorem d_MM_session_38 : decode b_MM_session 38 = .ok (.getfield 22, 3) := by decide +kernel
theorem d_MM_session_41 : decode b_MM_session 41 = .ok (.iload 4, 2) := by decide +kernel
theorem d_MM_session_43 : decode b_MM_session 43 = .ok (.new 20, 3) := by decide +kernel
theorem d_MM_session_46 : decode b_MM_session 46 = .ok (.dup, 1) := by decide +kernel
theorem d_MM_session_47 : decode b_MM_session 47 = .ok (.iload 4, 2) := by decide +kernel
theorem d_MM_session_49 : decode b_MM_session 49 = .ok (.iload_n 1, 1) := by decide +kernel
theorem d_MM_session_50 : decode b_MM_session 50 = .ok (.aload_n 3, 1) := by decide +kernel
theorem d_MM_session_51 : decode b_MM_session 51 = .ok (.invokespecial 83, 3) := by decide +kernel
theorem d_MM_session_54 : decode b_MM_session 54 = .ok (.aastore, 1) := by decide +kernel
theorem d_MM_session_55 : decode b_MM_session 55 = .ok (.aload_n 0, 1) := by decide +kernel
theorem d_MM_session_56 : decode b_MM_session 56 = .ok (.dup, 1) := by decide +kernel
theorem d_MM_session_57 : decode b_MM_session 57 = .ok (.getfield 26, 3) := by decide +kernel
theorem d_MM_session_60 : decode b_MM_session 60 = .ok (.iconst 1, 1) := by decide +kernel
theorem d_MM_session_61 : decode b_MM_session 61 = .ok (.iadd, 1) := by decide +kernel
theorem d_MM_session_62 : decode b_MM_session 62 = .ok (.putfield 26, 3) := by decide +kernel
theorem d_MM_session_65 : decode b_MM_session 65 = .ok (.iload 4, 2) := by decide +kernel
theorem d_MM_session_67 : decode b_MM_session 67 = .ok (.ireturn, 1) := by decide +kernel
theorem d_MM_make_0 : decode b_MM_make 0 = .ok (.aload_n 0, 1) := by decide +kernel
theorem d_MM_make_1 : decode b_MM_make 1 = .ok (.iload_n 1, 1) := by decide +kernel
theorem d_MM_make_2 : decode b_MM_make 2 = .ok (.invokevirtual 86, 3) := by decide +kernel
theorem d_MM_make_5 : decode b_MM_make 5 = .ok (.astore_n 3, 1) := by decide +kernel
theorem d_MM_make_6 : decode b_MM_make 6 = .ok (.iload_n 2, 1) := by decide +kernel
theorem d_MM_make_7 : decode b_MM_make 7 = .ok (.iconst 5, 1) := by decide +kernel
theorem d_MM_make_8 : decode b_MM_make 8 = .ok (.invokestatic 68, 3) := by decide +kernel
theorem d_MM_make_11 : decode b_MM_make 11 = .ok (.aload_n 3, 1) := by decide +kernel
theorem d_MM_make_12 : decode b_MM_make 12 = .ok (.invokestatic 90, 3) := by decide +kernel
theorem d_MM_make_15 : decode b_MM_make 15 = .ok (.aload_n 0, 1) := by decide +kernel
theorem d_MM_make_16 : decode b_MM_make 16 = .ok (.getfield 16, 3) := by decide +kernel
theorem d_MM_make_19 : decode b_MM_make 19 = .ok (.bipush 60, 2) := by decide +kernel
theorem d_MM_make_21 : decode b_MM_make 21 = .ok (.if_icmp .ge 10, 3) := by decide +kernel
theorem d_MM_make_24 : decode b_MM_make 24 = .ok (.aload_n 3, 1) := by decide +kernel
theorem d_MM_make_25 : decode b_MM_make 25 = .ok (.invokevirtual 94, 3) := by decide +kernel
theorem d_MM_make_28 : decode b_MM_make 28 = .ok (.ifCond .eq 6, 3) := by decide +kernel
theorem d_MM_make_31 : decode b_MM_make 31 = .ok (.bipush (-4), 2) := by decide +kernel
theorem d_MM_make_33 : decode b_MM_make 33 = .ok (.ireturn, 1) := by decide +kernel
theorem d_MM_make_34 : decode b_MM_make 34 = .ok (.aload_n 0, 1) := by decide +kernel
theorem d_MM_make_35 : decode b_MM_make 35 = .ok (.getfield 16, 3) := by decide +kernel
theorem d_MM_make_38 : decode b_MM_make 38 = .ok (.istore 4, 2) := by decide +kernel
theorem d_MM_make_40 : decode b_MM_make 40 = .ok (.aload_n 0, 1) := by decide +kernel
theorem d_MM_make_41 : decode b_MM_make 41 = .ok (.getfield 9, 3) := by decide +kernel
theorem d_MM_make_44 : decode b_MM_make 44 = .ok (.iload 4, 2) := by decide +kernel
theorem d_MM_make_46 : decode b_MM_make 46 = .ok (.iload_n 2, 1) := by decide +kernel
theorem d_MM_make_47 : decode b_MM_make 47 = .ok (.iastore, 1) := by decide +kernel
theorem d_MM_make_48 : decode b_MM_make 48 = .ok (.aload_n 0, 1) := by decide +kernel
theorem d_MM_make_49 : decode b_MM_make 49 = .ok (.getfield 13, 3) := by decide +kernel
theorem d_MM_make_52 : decode b_MM_make 52 = .ok (.iload 4, 2) := by decide +kernel
theorem d_MM_make_54 : decode b_MM_make 54 = .ok (.iconst (-1), 1) := by decide +kernel
theorem d_MM_make_55 : decode b_MM_make 55 = .ok (.iastore, 1) := by decide +kernel
theorem d_MM_make_56 : decode b_MM_make 56 = .ok (.aload_n 0, 1) := by decide +kernel
theorem d_MM_make_57 : decode b_MM_make 57 = .ok (.dup, 1) := by decide +kernel
theorem d_MM_make_58 : decode b_MM_make 58 = .ok (.getfield 16, 3) := by decide +kernel
theorem d_MM_make_61 : decode b_MM_make 61 = .ok (.iconst 1, 1) := by decide +kernel
theorem d_MM_make_62 : decode b_MM_make 62 = .ok (.iadd, 1) := by decide +kernel
theorem d_MM_make_63 : decode b_MM_make 63 = .ok (.putfield 16, 3) := by decide +kernel
theorem d_MM_make_66 : decode b_MM_make 66 = .ok (.aload_n 3, 1) := by decide +kernel
theorem d_MM_make_67 : decode b_MM_make 67 = .ok (.iload 4, 2) := by decide +kernel
theorem d_MM_make_69 : decode b_MM_make 69 = .ok (.iconst (-1), 1) := by decide +kernel
theorem d_MM_make_70 : decode b_MM_make 70 = .ok (.iconst 1, 1) := by decide +kernel
theorem d_MM_make_71 : decode b_MM_make 71 = .ok (.invokevirtual 98, 3) := by decide +kernel
theorem d_MM_make_74 : decode b_MM_make 74 = .ok (.pop, 1) := by decide +kernel
theorem d_MM_make_75 : decode b_MM_make 75 = .ok (.iload 4, 2) := by decide +kernel
theorem d_MM_make_77 : decode b_MM_make 77 = .ok (.ireturn, 1) := by decide +kernel
theorem d_MM_set_0 : decode b_MM_set 0 = .ok (.iload_n 3, 1) := by decide +kernel
theorem d_MM_set_1 : decode b_MM_set 1 = .ok (.iconst 5, 1) := by decide +kernel
theorem d_MM_set_2 : decode b_MM_set 2 = .ok (.invokestatic 68, 3) := by decide +kernel
theorem d_MM_set_5 : decode b_MM_set 5 = .ok (.aload_n 0, 1) := by decide +kernel
theorem d_MM_set_6 : decode b_MM_set 6 = .ok (.iload_n 1, 1) := by decide +kernel
theorem d_MM_set_7 : decode b_MM_set 7 = .ok (.iload_n 2, 1) := by decide +kernel
theorem d_MM_set_8 : decode b_MM_set 8 = .ok (.iload_n 3, 1) := by decide +kernel
theorem d_MM_set_9 : decode b_MM_set 9 = .ok (.iload 4, 2) := by decide +kernel
theorem d_MM_set_11 : decode b_MM_set 11 = .ok (.invokevirtual 102, 3) := by decide +kernel
theorem d_MM_set_14 : decode b_MM_set 14 = .ok (.ireturn, 1) := by decide +kernel
theorem d_MM_drop_0 : decode b_MM_drop 0 = .ok (.aload_n 0, 1) := by decide +kernel
theorem d_MM_drop_1 : decode b_MM_drop 1 = .ok (.iload_n 1, 1) := by decide +kernel
theorem d_MM_drop_2 : decode b_MM_drop 2 = .ok (.iload_n 2, 1) := by decide +kernel
theorem d_MM_drop_3 : decode b_MM_drop 3 = .ok (.iconst (-1), 1) := by decide +kernel
theorem d_MM_drop_4 : decode b_MM_drop 4 = .ok (.iconst 0, 1) := by decide +kernel
theorem d_MM_drop_5 : decode b_MM_drop 5 = .ok (.invokevirtual 102, 3) := by decide +kernel
theorem d_MM_drop_8 : decode b_MM_drop 8 = .ok (.ireturn, 1) := by decide +kernel
theorem d_MM_undo_0 : decode b_MM_undo 0 = .ok (.aload_n 0, 1) := by decide +kernel
theorem d_MM_undo_1 : decode b_MM_undo 1 = .ok (.iload_n 1, 1) := by decide +kernel
theorem d_MM_undo_2 : decode b_MM_undo 2 = .ok (.invokevirtual 86, 3) := by decide +kernel
theorem d_MM_undo_5 : decode b_MM_undo 5 = .ok (.astore_n 2, 1) := by decide +kernel
theorem d_MM_undo_6 : decode b_MM_undo 6 = .ok (.aload_n 2, 1) := by decide +kernel
theorem d_MM_undo_7 : decode b_MM_undo 7 = .ok (.invokestatic 90, 3) := by decide +kernel
theorem d_MM_undo_10 : decode b_MM_undo 10 = .ok (.aload_n 2, 1) := by decide +kernel
theorem d_MM_undo_11 : decode b_MM_undo 11 = .ok (.invokevirtual 106, 3) := by decide +kernel
theorem d_MM_undo_14 : decode b_MM_undo 14 = .ok (.ireturn, 1) := by decide +kernel
theorem d_MM_redo_0 : decode b_MM_redo 0 = .ok (.aload_n 0, 1) := by decide +kernel
theorem d_MM_redo_1 : decode b_MM_redo 1 = .ok (.iload_n 1, 1) := by decide +kernel
theorem d_MM_redo_2 : decode b_MM_redo 2 = .ok (.invokevirtual 86, 3) := by decide +kernel
theorem d_MM_redo_5 : decode b_MM_redo 5 = .ok (.astore_n 2, 1) := by decide +kernel
theorem d_MM_redo_6 : decode b_MM_redo 6 = .ok (.aload_n 2, 1) := by decide +kernel
theorem d_MM_redo_7 : decode b_MM_redo 7 = .ok (.invokestatic 90, 3) := by decide +kernel
theorem d_MM_redo_10 : decode b_MM_redo 10 = .ok (.aload_n 2, 1) := by decide +kernel
theorem d_MM_redo_11 : decode b_MM_redo 11 = .ok (.invokevirtual 110, 3) := by decide +kernel
theorem d_MM_redo_14 : decode b_MM_redo 14 = .ok (.ireturn, 1) := by decide +kernel
theorem d_MM_lock_0 : decode b_MM_lock 0 = .ok (.aload_n 0, 1) := by decide +kernel
theorem d_MM_lock_1 : decode b_MM_lock 1 = .ok (.iload_n 1, 1) := by decide +kernel
theorem d_MM_lock_2 : decode b_MM_lock 2 = .ok (.invokevirtual 113, 3) := by decide +kernel
theorem d_MM_lock_5 : decode b_MM_lock 5 = .ok (.iload_n 2, 1) := by decide +kernel
theorem d_MM_lock_6 : decode b_MM_lock 6 = .ok (.iconst (-1), 1) := by decide +kernel
theorem d_MM_lock_7 : decode b_MM_lock 7 = .ok (.if_icmp .eq 9, 3) := by decide +kernel
theorem d_MM_lock_10 : decode b_MM_lock 10 = .ok (.iload_n 2, 1) := by decide +kernel
theorem d_MM_lock_11 : decode b_MM_lock 11 = .ok (.bipush 10, 2) := by decide +kernel
theorem d_MM_lock_13 : decode b_MM_lock 13 = .ok (.invokestatic 68, 3) := by decide +kernel
theorem d_MM_lock_16 : decode b_MM_lock 16 = .ok (.aload_n 0, 1) := by decide +kernel
theorem d_MM_lock_17 : decode b_MM_lock 17 = .ok (.iload_n 1, 1) := by decide +kernel
theorem d_MM_lock_18 : decode b_MM_lock 18 = .ok (.invokevirtual 117, 3) := by decide +kernel
theorem d_MM_lock_21 : decode b_MM_lock 21 = .ok (.istore_n 3, 1) := by decide +kernel
theorem d_MM_lock_22 : decode b_MM_lock 22 = .ok (.aload_n 0, 1) := by decide +kernel
theorem d_MM_lock_23 : decode b_MM_lock 23 = .ok (.getfield 13, 3) := by decide +kernel
theorem d_MM_lock_26 : decode b_MM_lock 26 = .ok (.iload_n 1, 1) := by decide +kernel
theorem d_MM_lock_27 : decode b_MM_lock 27 = .ok (.iload_n 2, 1) := by decide +kernel
theorem d_MM_lock_28 : decode b_MM_lock 28 = .ok (.iastore, 1) := by decide +kernel
theorem d_MM_lock_29 : decode b_MM_lock 29 = .ok (.iload_n 3, 1) := by decide +kernel
theorem d_MM_lock_30 : decode b_MM_lock 30 = .ok (.ireturn, 1) := by decide +kernel
theorem d_MM_rule_0 : decode b_MM_rule 0 = .ok (.iload_n 1, 1) := by decide +kernel
theorem d_MM_rule_1 : decode b_MM_rule 1 = .ok (.iconst 5, 1) := by decide +kernel
theorem d_MM_rule_2 : decode b_MM_rule 2 = .ok (.invokestatic 68, 3) := by decide +kernel
theorem d_MM_rule_5 : decode b_MM_rule 5 = .ok (.iload_n 2, 1) := by decide +kernel
theorem d_MM_rule_6 : decode b_MM_rule 6 = .ok (.iconst 5, 1) := by decide +kernel
theorem d_MM_rule_7 : decode b_MM_rule 7 = .ok (.invokestatic 68, 3) := by decide +kernel
theorem d_MM_rule_10 : decode b_MM_rule 10 = .ok (.iload_n 3, 1) := by decide +kernel
theorem d_MM_rule_11 : decode b_MM_rule 11 = .ok (.iconst 5, 1) := by decide +kernel
theorem d_MM_rule_12 : decode b_MM_rule 12 = .ok (.invokestatic 68, 3) := by decide +kernel
theorem d_MM_rule_15 : decode b_MM_rule 15 = .ok (.aload_n 0, 1) := by decide +kernel
theorem d_MM_rule_16 : decode b_MM_rule 16 = .ok (.getfield 44, 3) := by decide +kernel
theorem d_MM_rule_19 : decode b_MM_rule 19 = .ok (.bipush 10, 2) := by decide +kernel
theorem d_MM_rule_21 : decode b_MM_rule 21 = .ok (.if_icmp .lt 13, 3) := by decide +kernel
theorem d_MM_rule_24 : decode b_MM_rule 24 = .ok (.new 76, 3) := by decide +kernel
theorem d_MM_rule_27 : decode b_MM_rule 27 = .ok (.dup, 1) := by decide +kernel
theorem d_MM_rule_28 : decode b_MM_rule 28 = .ok (.ldc 121, 2) := by decide +kernel
theorem d_MM_rule_30 : decode b_MM_rule 30 = .ok (.invokespecial 80, 3) := by decide +kernel
theorem d_MM_rule_33 : decode b_MM_rule 33 = .ok (.athrow, 1) := by decide +kernel
theorem d_MM_rule_34 : decode b_MM_rule 34 = .ok (.aload_n 0, 1) := by decide +kernel
theorem d_MM_rule_35 : decode b_MM_rule 35 = .ok (.getfield 44, 3) := by decide +kernel
theorem d_MM_rule_38 : decode b_MM_rule 38 = .ok (.istore 4, 2) := by decide +kernel
theorem d_MM_rule_40 : decode b_MM_rule 40 = .ok (.aload_n 0, 1) := by decide +kernel
theorem d_MM_rule_41 : decode b_MM_rule 41 = .ok (.getfield 40, 3) := by decide +kernel
theorem d_MM_rule_44 : decode b_MM_rule 44 = .ok (.iload 4, 2) := by decide +kernel
theorem d_MM_rule_46 : decode b_MM_rule 46 = .ok (.new 38, 3) := by decide +kernel
theorem d_MM_rule_49 : decode b_MM_rule 49 = .ok (.dup, 1) := by decide +kernel
theorem d_MM_rule_50 : decode b_MM_rule 50 = .ok (.iload_n 1, 1) := by decide +kernel
theorem d_MM_rule_51 : decode b_MM_rule 51 = .ok (.iload_n 2, 1) := by decide +kernel
theorem d_MM_rule_52 : decode b_MM_rule 52 = .ok (.iload_n 3, 1) := by decide +kernel
theorem d_MM_rule_53 : decode b_MM_rule 53 = .ok (.invokespecial 123, 3) := by decide +kernel
theorem d_MM_rule_56 : decode b_MM_rule 56 = .ok (.aastore, 1) := by decide +kernel
theorem d_MM_rule_57 : decode b_MM_rule 57 = .ok (.aload_n 0, 1) := by decide +kernel
theorem d_MM_rule_58 : decode b_MM_rule 58 = .ok (.dup, 1) := by decide +kernel
theorem d_MM_rule_59 : decode b_MM_rule 59 = .ok (.getfield 44, 3) := by decide +kernel
theorem d_MM_rule_62 : decode b_MM_rule 62 = .ok (.iconst 1, 1) := by decide +kernel
theorem d_MM_rule_63 : decode b_MM_rule 63 = .ok (.iadd, 1) := by decide +kernel
theorem d_MM_rule_64 : decode b_MM_rule 64 = .ok (.putfield 44, 3) := by decide +kernel
theorem d_MM_rule_67 : decode b_MM_rule 67 = .ok (.iload 4, 2) := by decide +kernel
theorem d_MM_rule_69 : decode b_MM_rule 69 = .ok (.ireturn, 1) := by decide +kernel
theorem d_MM_join_0 : decode b_MM_join 0 = .ok (.aload_n 0, 1) := by decide +kernel
theorem d_MM_join_1 : decode b_MM_join 1 = .ok (.iload_n 1, 1) := by decide +kernel
theorem d_MM_join_2 : decode b_MM_join 2 = .ok (.invokevirtual 86, 3) := by decide +kernel
theorem d_MM_join_5 : decode b_MM_join 5 = .ok (.astore_n 2, 1) := by decide +kernel
theorem d_MM_join_6 : decode b_MM_join 6 = .ok (.aload_n 2, 1) := by decide +kernel
theorem d_MM_join_7 : decode b_MM_join 7 = .ok (.invokestatic 90, 3) := by decide +kernel
theorem d_MM_join_10 : decode b_MM_join 10 = .ok (.aload_n 0, 1) := by decide +kernel
theorem d_MM_join_11 : decode b_MM_join 11 = .ok (.getfield 54, 3) := by decide +kernel
theorem d_MM_join_14 : decode b_MM_join 14 = .ok (.ifnull 6, 3) := by decide +kernel
theorem d_MM_join_17 : decode b_MM_join 17 = .ok (.bipush (-5), 2) := by decide +kernel
theorem d_MM_join_19 : decode b_MM_join 19 = .ok (.ireturn, 1) := by decide +kernel
theorem d_MM_join_20 : decode b_MM_join 20 = .ok (.aload_n 0, 1) := by decide +kernel
theorem d_MM_join_21 : decode b_MM_join 21 = .ok (.getfield 35, 3) := by decide +kernel
theorem d_MM_join_24 : decode b_MM_join 24 = .ok (.bipush 40, 2) := by decide +kernel
theorem d_MM_join_26 : decode b_MM_join 26 = .ok (.if_icmp .lt 6, 3) := by decide +kernel
theorem d_MM_join_29 : decode b_MM_join 29 = .ok (.bipush (-4), 2) := by decide +kernel
theorem d_MM_join_31 : decode b_MM_join 31 = .ok (.ireturn, 1) := by decide +kernel
theorem d_MM_join_32 : decode b_MM_join 32 = .ok (.aload_n 0, 1) := by decide +kernel
theorem d_MM_join_33 : decode b_MM_join 33 = .ok (.aload_n 2, 1) := by decide +kernel
theorem d_MM_join_34 : decode b_MM_join 34 = .ok (.invokevirtual 126, 3) := by decide +kernel
theorem d_MM_join_37 : decode b_MM_join 37 = .ok (.aload_n 0, 1) := by decide +kernel
theorem d_MM_join_38 : decode b_MM_join 38 = .ok (.getfield 50, 3) := by decide +kernel
theorem d_MM_join_41 : decode b_MM_join 41 = .ok (.getfield 129, 3) := by decide +kernel
theorem d_MM_join_44 : decode b_MM_join 44 = .ok (.ifCond .ne 10, 3) := by decide +kernel
theorem d_MM_join_47 : decode b_MM_join 47 = .ok (.aload_n 0, 1) := by decide +kernel
theorem d_MM_join_48 : decode b_MM_join 48 = .ok (.aload_n 2, 1) := by decide +kernel
theorem d_MM_join_49 : decode b_MM_join 49 = .ok (.invokevirtual 132, 3) := by decide +kernel
theorem d_MM_join_52 : decode b_MM_join 52 = .ok (.iconst 0, 1) := by decide +kernel
theorem d_MM_join_53 : decode b_MM_join 53 = .ok (.ireturn, 1) := by decide +kernel
theorem d_MM_join_54 : decode b_MM_join 54 = .ok (.aload_n 2, 1) := by decide +kernel
theorem d_MM_join_55 : decode b_MM_join 55 = .ok (.iconst 1, 1) := by decide +kernel
theorem d_MM_join_56 : decode b_MM_join 56 = .ok (.putfield 135, 3) := by decide +kernel
theorem d_MM_join_59 : decode b_MM_join 59 = .ok (.aload_n 0, 1) := by decide +kernel
theorem d_MM_join_60 : decode b_MM_join 60 = .ok (.aload_n 2, 1) := by decide +kernel
theorem d_MM_join_61 : decode b_MM_join 61 = .ok (.putfield 54, 3) := by decide +kernel
theorem d_MM_join_64 : decode b_MM_join 64 = .ok (.aload_n 0, 1) := by decide +kernel
theorem d_MM_join_65 : decode b_MM_join 65 = .ok (.getfield 50, 3) := by decide +kernel
theorem d_MM_join_68 : decode b_MM_join 68 = .ok (.getfield 129, 3) := by decide +kernel
theorem d_MM_join_71 : decode b_MM_join 71 = .ok (.ireturn, 1) := by decide +kernel
theorem d_MM_conflict_0 : decode b_MM_conflict 0 = .ok (.iload_n 2, 1) := by decide +kernel
theorem d_MM_conflict_1 : decode b_MM_conflict 1 = .ok (.iconst 5, 1) := by decide +kernel
theorem d_MM_conflict_2 : decode b_MM_conflict 2 = .ok (.invokestatic 68, 3) := by decide +kernel
theorem d_MM_conflict_5 : decode b_MM_conflict 5 = .ok (.aload_n 0, 1) := by decide +kernel
theorem d_MM_conflict_6 : decode b_MM_conflict 6 = .ok (.iload_n 1, 1) := by decide +kernel
theorem d_MM_conflict_7 : decode b_MM_conflict 7 = .ok (.invokevirtual 138, 3) := by decide +kernel
theorem d_MM_conflict_10 : decode b_MM_conflict 10 = .ok (.astore_n 3, 1) := by decide +kernel
theorem d_MM_conflict_11 : decode b_MM_conflict 11 = .ok (.aload_n 0, 1) := by decide +kernel
theorem d_MM_conflict_12 : decode b_MM_conflict 12 = .ok (.getfield 50, 3) := by decide +kernel
theorem d_MM_conflict_15 : decode b_MM_conflict 15 = .ok (.iload_n 1, 1) := by decide +kernel
theorem d_MM_conflict_16 : decode b_MM_conflict 16 = .ok (.invokevirtual 141, 3) := by decide +kernel
theorem d_MM_conflict_19 : decode b_MM_conflict 19 = .ok (.istore 4, 2) := by decide +kernel
theorem d_MM_conflict_21 : decode b_MM_conflict 21 = .ok (.aload_n 0, 1) := by decide +kernel
theorem d_MM_conflict_22 : decode b_MM_conflict 22 = .ok (.getfield 50, 3) := by decide +kernel
theorem d_MM_conflict_25 : decode b_MM_conflict 25 = .ok (.iload_n 1, 1) := by decide +kernel
theorem d_MM_conflict_26 : decode b_MM_conflict 26 = .ok (.invokevirtual 144, 3) := by decide +kernel
theorem d_MM_conflict_29 : decode b_MM_conflict 29 = .ok (.istore 5, 2) := by decide +kernel
theorem d_MM_conflict_31 : decode b_MM_conflict 31 = .ok (.iload_n 2, 1) := by decide +kernel
theorem d_MM_conflict_32 : decode b_MM_conflict 32 = .ok (.tableswitch 65 0 3 #[32, 35, 38, 53], 32) := by decide +kernel
theorem d_MM_conflict_64 : decode b_MM_conflict 64 = .ok (.iload 4, 2) := by decide +kernel
theorem d_MM_conflict_66 : decode b_MM_conflict 66 = .ok (.ireturn, 1) := by decide +kernel
theorem d_MM_conflict_67 : decode b_MM_conflict 67 = .ok (.iload 5, 2) := by decide +kernel
theorem d_MM_conflict_69 : decode b_MM_conflict 69 = .ok (.ireturn, 1) := by decide +kernel
theorem d_MM_conflict_70 : decode b_MM_conflict 70 = .ok (.aload_n 0, 1) := by decide +kernel
theorem d_MM_conflict_71 : decode b_MM_conflict 71 = .ok (.getfield 64, 3) := by decide +kernel
theorem d_MM_conflict_74 : decode b_MM_conflict 74 = .ok (.getfield 147, 3) := by decide +kernel
theorem d_MM_conflict_77 : decode b_MM_conflict 77 = .ok (.iload 4, 2) := by decide +kernel
theorem d_MM_conflict_79 : decode b_MM_conflict 79 = .ok (.iload 5, 2) := by decide +kernel
theorem d_MM_conflict_81 : decode b_MM_conflict 81 = .ok (.invokevirtual 151, 3) := by decide +kernel
theorem d_MM_conflict_84 : decode b_MM_conflict 84 = .ok (.ireturn, 1) := by decide +kernel
theorem d_MM_conflict_85 : decode b_MM_conflict 85 = .ok (.aload_n 3, 1) := by decide +kernel
theorem d_MM_conflict_86 : decode b_MM_conflict 86 = .ok (.getfield 155, 3) := by decide +kernel
theorem d_MM_conflict_89 : decode b_MM_conflict 89 = .ok (.iload 4, 2) := by decide +kernel
theorem d_MM_conflict_91 : decode b_MM_conflict 91 = .ok (.iload 5, 2) := by decide +kernel
theorem d_MM_conflict_93 : decode b_MM_conflict 93 = .ok (.invokevirtual 151, 3) := by decide +kernel
theorem d_MM_conflict_96 : decode b_MM_conflict 96 = .ok (.ireturn, 1) := by decide +kernel
theorem d_MM_conflict_97 : decode b_MM_conflict 97 = .ok (.aload_n 0, 1) := by decide +kernel
theorem d_MM_conflict_98 : decode b_MM_conflict 98 = .ok (.getfield 50, 3) := by decide +kernel
theorem d_MM_conflict_101 : decode b_MM_conflict 101 = .ok (.iload_n 1, 1) := by decide +kernel
theorem d_MM_conflict_102 : decode b_MM_conflict 102 = .ok (.invokevirtual 156, 3) := by decide +kernel
theorem d_MM_conflict_105 : decode b_MM_conflict 105 = .ok (.ireturn, 1) := by decide +kernel
theorem d_MM_settle_0 : decode b_MM_settle 0 = .ok (.iload_n 2, 1) := by decide +kernel
theorem d_MM_settle_1 : decode b_MM_settle 1 = .ok (.invokestatic 159, 3) := by decide +kernel
theorem d_MM_settle_4 : decode b_MM_settle 4 = .ok (.aload_n 0, 1) := by decide +kernel
theorem d_MM_settle_5 : decode b_MM_settle 5 = .ok (.iload_n 1, 1) := by decide +kernel
theorem d_MM_settle_6 : decode b_MM_settle 6 = .ok (.invokevirtual 138, 3) := by decide +kernel
theorem d_MM_settle_9 : decode b_MM_settle 9 = .ok (.astore_n 3, 1) := by decide +kernel
theorem d_MM_settle_10 : decode b_MM_settle 10 = .ok (.aload_n 0, 1) := by decide +kernel
theorem d_MM_settle_11 : decode b_MM_settle 11 = .ok (.getfield 50, 3) := by decide +kernel
theorem d_MM_settle_14 : decode b_MM_settle 14 = .ok (.iload_n 1, 1) := by decide +kernel
theorem d_MM_settle_15 : decode b_MM_settle 15 = .ok (.iload_n 2, 1) := by decide +kernel
theorem d_MM_settle_16 : decode b_MM_settle 16 = .ok (.invokevirtual 162, 3) := by decide +kernel
theorem d_MM_settle_19 : decode b_MM_settle 19 = .ok (.aload_n 0, 1) := by decide +kernel
theorem d_MM_settle_20 : decode b_MM_settle 20 = .ok (.getfield 50, 3) := by decide +kernel
theorem d_MM_settle_23 : decode b_MM_settle 23 = .ok (.invokevirtual 165, 3) := by decide +kernel
theorem d_MM_settle_26 : decode b_MM_settle 26 = .ok (.istore 4, 2) := by decide +kernel
theorem d_MM_settle_28 : decode b_MM_settle 28 = .ok (.iload 4, 2) := by decide +kernel
theorem d_MM_settle_30 : decode b_MM_settle 30 = .ok (.ifCond .ne 8, 3) := by decide +kernel
theorem d_MM_settle_33 : decode b_MM_settle 33 = .ok (.aload_n 0, 1) := by decide +kernel
theorem d_MM_settle_34 : decode b_MM_settle 34 = .ok (.aload_n 3, 1) := by decide +kernel
theorem d_MM_settle_35 : decode b_MM_settle 35 = .ok (.invokevirtual 132, 3) := by decide +kernel
theorem d_MM_settle_38 : decode b_MM_settle 38 = .ok (.iload 4, 2) := by decide +kernel
theorem d_MM_settle_40 : decode b_MM_settle 40 = .ok (.ireturn, 1) := by decide +kernel
theorem d_MM_giveUp_0 : decode b_MM_giveUp 0 = .ok (.aload_n 0, 1) := by decide +kernel
theorem d_MM_giveUp_1 : decode b_MM_giveUp 1 = .ok (.getfield 54, 3) := by decide +kernel
theorem d_MM_giveUp_4 : decode b_MM_giveUp 4 = .ok (.astore_n 1, 1) := by decide +kernel
theorem d_MM_giveUp_5 : decode b_MM_giveUp 5 = .ok (.aload_n 1, 1) := by decide +kernel
theorem d_MM_giveUp_6 : decode b_MM_giveUp 6 = .ok (.ifnonnull 13, 3) := by decide +kernel
theorem d_MM_giveUp_9 : decode b_MM_giveUp 9 = .ok (.new 76, 3) := by decide +kernel
theorem d_MM_giveUp_12 : decode b_MM_giveUp 12 = .ok (.dup, 1) := by decide +kernel
theorem d_MM_giveUp_13 : decode b_MM_giveUp 13 = .ok (.ldc 168, 2) := by decide +kernel
theorem d_MM_giveUp_15 : decode b_MM_giveUp 15 = .ok (.invokespecial 80, 3) := by decide +kernel
theorem d_MM_giveUp_18 : decode b_MM_giveUp 18 = .ok (.athrow, 1) := by decide +kernel
theorem d_MM_giveUp_19 : decode b_MM_giveUp 19 = .ok (.aload_n 1, 1) := by decide +kernel
theorem d_MM_giveUp_20 : decode b_MM_giveUp 20 = .ok (.iconst 0, 1) := by decide +kernel
theorem d_MM_giveUp_21 : decode b_MM_giveUp 21 = .ok (.putfield 135, 3) := by decide +kernel
theorem d_MM_giveUp_24 : decode b_MM_giveUp 24 = .ok (.aload_n 0, 1) := by decide +kernel
theorem d_MM_giveUp_25 : decode b_MM_giveUp 25 = .ok (.aconst_null, 1) := by decide +kernel
theorem d_MM_giveUp_26 : decode b_MM_giveUp 26 = .ok (.putfield 54, 3) := by decide +kernel
theorem d_MM_giveUp_29 : decode b_MM_giveUp 29 = .ok (.aload_n 1, 1) := by decide +kernel
theorem d_MM_giveUp_30 : decode b_MM_giveUp 30 = .ok (.getfield 170, 3) := by decide +kernel
theorem d_MM_giveUp_33 : decode b_MM_giveUp 33 = .ok (.ireturn, 1) := by decide +kernel
theorem d_MM_here_0 : decode b_MM_here 0 = .ok (.aload_n 0, 1) := by decide +kernel
theorem d_MM_here_1 : decode b_MM_here 1 = .ok (.iload_n 1, 1) := by decide +kernel
theorem d_MM_here_2 : decode b_MM_here 2 = .ok (.invokevirtual 86, 3) := by decide +kernel
theorem d_MM_here_5 : decode b_MM_here 5 = .ok (.astore_n 3, 1) := by decide +kernel
theorem d_MM_here_6 : decode b_MM_here 6 = .ok (.aload_n 0, 1) := by decide +kernel
theorem d_MM_here_7 : decode b_MM_here 7 = .ok (.iload_n 2, 1) := by decide +kernel
theorem d_MM_here_8 : decode b_MM_here 8 = .ok (.invokevirtual 113, 3) := by decide +kernel
theorem d_MM_here_11 : decode b_MM_here 11 = .ok (.aload_n 3, 1) := by decide +kernel
theorem d_MM_here_12 : decode b_MM_here 12 = .ok (.getfield 155, 3) := by decide +kernel
theorem d_MM_here_15 : decode b_MM_here 15 = .ok (.iload_n 2, 1) := by decide +kernel
theorem d_MM_here_16 : decode b_MM_here 16 = .ok (.iconst (-1), 1) := by decide +kernel
theorem d_MM_here_17 : decode b_MM_here 17 = .ok (.invokevirtual 151, 3) := by decide +kernel
theorem d_MM_here_20 : decode b_MM_here 20 = .ok (.ireturn, 1) := by decide +kernel
theorem d_MM_now_0 : decode b_MM_now 0 = .ok (.aload_n 0, 1) := by decide +kernel
theorem d_MM_now_1 : decode b_MM_now 1 = .ok (.iload_n 1, 1) := by decide +kernel
theorem d_MM_now_2 : decode b_MM_now 2 = .ok (.invokevirtual 86, 3) := by decide +kernel
theorem d_MM_now_5 : decode b_MM_now 5 = .ok (.astore 4, 2) := by decide +kernel
theorem d_MM_now_7 : decode b_MM_now 7 = .ok (.aload_n 0, 1) := by decide +kernel
theorem d_MM_now_8 : decode b_MM_now 8 = .ok (.aload 4, 2) := by decide +kernel
theorem d_MM_now_10 : decode b_MM_now 10 = .ok (.getfield 155, 3) := by decide +kernel
theorem d_MM_now_13 : decode b_MM_now 13 = .ok (.iload_n 2, 1) := by decide +kernel
theorem d_MM_now_14 : decode b_MM_now 14 = .ok (.iload_n 3, 1) := by decide +kernel
theorem d_MM_now_15 : decode b_MM_now 15 = .ok (.invokevirtual 173, 3) := by decide +kernel
theorem d_MM_now_18 : decode b_MM_now 18 = .ok (.aload 4, 2) := by decide +kernel
theorem d_MM_now_20 : decode b_MM_now 20 = .ok (.getfield 155, 3) := by decide +kernel
theorem d_MM_now_23 : decode b_MM_now 23 = .ok (.iload_n 2, 1) := by decide +kernel
theorem d_MM_now_24 : decode b_MM_now 24 = .ok (.iload_n 3, 1) := by decide +kernel
theorem d_MM_now_25 : decode b_MM_now 25 = .ok (.invokevirtual 151, 3) := by decide +kernel
theorem d_MM_now_28 : decode b_MM_now 28 = .ok (.ireturn, 1) := by decide +kernel
theorem d_MM_there_0 : decode b_MM_there 0 = .ok (.aload_n 0, 1) := by decide +kernel
theorem d_MM_there_1 : decode b_MM_there 1 = .ok (.iload_n 1, 1) := by decide +kernel
theorem d_MM_there_2 : decode b_MM_there 2 = .ok (.invokevirtual 72, 3) := by decide +kernel
theorem d_MM_there_5 : decode b_MM_there 5 = .ok (.astore 4, 2) := by decide +kernel
theorem d_MM_there_7 : decode b_MM_there 7 = .ok (.aload_n 0, 1) := by decide +kernel
theorem d_MM_there_8 : decode b_MM_there 8 = .ok (.iload_n 2, 1) := by decide +kernel
theorem d_MM_there_9 : decode b_MM_there 9 = .ok (.invokevirtual 113, 3) := by decide +kernel
theorem d_MM_there_12 : decode b_MM_there 12 = .ok (.iload_n 3, 1) := by decide +kernel
theorem d_MM_there_13 : decode b_MM_there 13 = .ok (.tableswitch 51 0 2 #[27, 38, 44], 27) := by decide +kernel
theorem d_MM_there_40 : decode b_MM_there 40 = .ok (.aload 4, 2) := by decide +kernel
theorem d_MM_there_42 : decode b_MM_there 42 = .ok (.getfield 147, 3) := by decide +kernel
theorem d_MM_there_45 : decode b_MM_there 45 = .ok (.iload_n 2, 1) := by decide +kernel
theorem d_MM_there_46 : decode b_MM_there 46 = .ok (.iconst (-1), 1) := by decide +kernel
theorem d_MM_there_47 : decode b_MM_there 47 = .ok (.invokevirtual 151, 3) := by decide +kernel
theorem d_MM_there_50 : decode b_MM_there 50 = .ok (.ireturn, 1) := by decide +kernel
theorem d_MM_there_51 : decode b_MM_there 51 = .ok (.aload_n 0, 1) := by decide +kernel
theorem d_MM_there_52 : decode b_MM_there 52 = .ok (.iload_n 2, 1) := by decide +kernel
theorem d_MM_there_53 : decode b_MM_there 53 = .ok (.invokevirtual 177, 3) := by decide +kernel
theorem d_MM_there_56 : decode b_MM_there 56 = .ok (.ireturn, 1) := by decide +kernel
theorem d_MM_there_57 : decode b_MM_there 57 = .ok (.aload 4, 2) := by decide +kernel
theorem d_MM_there_59 : decode b_MM_there 59 = .ok (.iload_n 2, 1) := by decide +kernel
theorem d_MM_there_60 : decode b_MM_there 60 = .ok (.invokevirtual 180, 3) := by decide +kernel
theorem d_MM_there_63 : decode b_MM_there 63 = .ok (.ireturn, 1) := by decide +kernel
theorem d_MM_there_64 : decode b_MM_there 64 = .ok (.new 183, 3) := by decide +kernel
theorem d_MM_there_67 : decode b_MM_there 67 = .ok (.dup, 1) := by decide +kernel
theorem d_MM_there_68 : decode b_MM_there 68 = .ok (.ldc 185, 2) := by decide +kernel
theorem d_MM_there_70 : decode b_MM_there 70 = .ok (.invokespecial 187, 3) := by decide +kernel
theorem d_MM_there_73 : decode b_MM_there 73 = .ok (.athrow, 1) := by decide +kernel
theorem d_MM_at_0 : decode b_MM_at 0 = .ok (.aload_n 0, 1) := by decide +kernel
theorem d_MM_at_1 : decode b_MM_at 1 = .ok (.iload_n 1, 1) := by decide +kernel
theorem d_MM_at_2 : decode b_MM_at 2 = .ok (.invokevirtual 72, 3) := by decide +kernel
theorem d_MM_at_5 : decode b_MM_at 5 = .ok (.astore 4, 2) := by decide +kernel
theorem d_MM_at_7 : decode b_MM_at 7 = .ok (.aload_n 0, 1) := by decide +kernel
theorem d_MM_at_8 : decode b_MM_at 8 = .ok (.aload 4, 2) := by decide +kernel
theorem d_MM_at_10 : decode b_MM_at 10 = .ok (.getfield 147, 3) := by decide +kernel
theorem d_MM_at_13 : decode b_MM_at 13 = .ok (.iload_n 2, 1) := by decide +kernel
theorem d_MM_at_14 : decode b_MM_at 14 = .ok (.iload_n 3, 1) := by decide +kernel
theorem d_MM_at_15 : decode b_MM_at 15 = .ok (.invokevirtual 173, 3) := by decide +kernel
theorem d_MM_at_18 : decode b_MM_at 18 = .ok (.aload 4, 2) := by decide +kernel
theorem d_MM_at_20 : decode b_MM_at 20 = .ok (.getfield 147, 3) := by decide +kernel
theorem d_MM_at_23 : decode b_MM_at 23 = .ok (.iload_n 2, 1) := by decide +kernel
theorem d_MM_at_24 : decode b_MM_at 24 = .ok (.iload_n 3, 1) := by decide +kernel
theorem d_MM_at_25 : decode b_MM_at 25 = .ok (.invokevirtual 151, 3) := by decide +kernel
theorem d_MM_at_28 : decode b_MM_at 28 = .ok (.ireturn, 1) := by decide +kernel
theorem d_MM_since_0 : decode b_MM_since 0 = .ok (.aload_n 0, 1) := by decide +kernel
theorem d_MM_since_1 : decode b_MM_since 1 = .ok (.iload_n 1, 1) := by decide +kernel
theorem d_MM_since_2 : decode b_MM_since 2 = .ok (.invokevirtual 72, 3) := by decide +kernel
theorem d_MM_since_5 : decode b_MM_since 5 = .ok (.astore 4, 2) := by decide +kernel
theorem d_MM_since_7 : decode b_MM_since 7 = .ok (.aload_n 0, 1) := by decide +kernel
theorem d_MM_since_8 : decode b_MM_since 8 = .ok (.aload 4, 2) := by decide +kernel
theorem d_MM_since_10 : decode b_MM_since 10 = .ok (.getfield 147, 3) := by decide +kernel
theorem d_MM_since_13 : decode b_MM_since 13 = .ok (.iload_n 2, 1) := by decide +kernel
theorem d_MM_since_14 : decode b_MM_since 14 = .ok (.iload_n 3, 1) := by decide +kernel
theorem d_MM_since_15 : decode b_MM_since 15 = .ok (.invokevirtual 173, 3) := by decide +kernel
theorem d_MM_since_18 : decode b_MM_since 18 = .ok (.aload 4, 2) := by decide +kernel
theorem d_MM_since_20 : decode b_MM_since 20 = .ok (.iload_n 2, 1) := by decide +kernel
theorem d_MM_since_21 : decode b_MM_since 21 = .ok (.iload_n 3, 1) := by decide +kernel
theorem d_MM_since_22 : decode b_MM_since 22 = .ok (.invokevirtual 188, 3) := by decide +kernel
theorem d_MM_since_25 : decode b_MM_since 25 = .ok (.ireturn, 1) := by decide +kernel
theorem d_MM_told_0 : decode b_MM_told 0 = .ok (.aload_n 0, 1) := by decide +kernel
theorem d_MM_told_1 : decode b_MM_told 1 = .ok (.iload_n 1, 1) := by decide +kernel
theorem d_MM_told_2 : decode b_MM_told 2 = .ok (.invokevirtual 86, 3) := by decide +kernel
theorem d_MM_told_5 : decode b_MM_told 5 = .ok (.astore_n 3, 1) := by decide +kernel
theorem d_MM_told_6 : decode b_MM_told 6 = .ok (.iload_n 2, 1) := by decide +kernel
theorem d_MM_told_7 : decode b_MM_told 7 = .ok (.tableswitch 73 0 5 #[37, 42, 47, 55, 63, 68], 37) := by decide +kernel
theorem d_MM_told_44 : decode b_MM_told 44 = .ok (.aload_n 3, 1) := by decide +kernel
theorem d_MM_told_45 : decode b_MM_told 45 = .ok (.getfield 135, 3) := by decide +kernel
theorem d_MM_told_48 : decode b_MM_told 48 = .ok (.ireturn, 1) := by decide +kernel
theorem d_MM_told_49 : decode b_MM_told 49 = .ok (.aload_n 3, 1) := by decide +kernel
theorem d_MM_told_50 : decode b_MM_told 50 = .ok (.getfield 191, 3) := by decide +kernel
theorem d_MM_told_53 : decode b_MM_told 53 = .ok (.ireturn, 1) := by decide +kernel
theorem d_MM_told_54 : decode b_MM_told 54 = .ok (.aload_n 3, 1) := by decide +kernel
theorem d_MM_told_55 : decode b_MM_told 55 = .ok (.getfield 194, 3) := by decide +kernel
theorem d_MM_told_58 : decode b_MM_told 58 = .ok (.getfield 197, 3) := by decide +kernel
theorem d_MM_told_61 : decode b_MM_told 61 = .ok (.ireturn, 1) := by decide +kernel
theorem d_MM_told_62 : decode b_MM_told 62 = .ok (.aload_n 3, 1) := by decide +kernel
theorem d_MM_told_63 : decode b_MM_told 63 = .ok (.getfield 198, 3) := by decide +kernel
theorem d_MM_told_66 : decode b_MM_told 66 = .ok (.getfield 202, 3) := by decide +kernel
theorem d_MM_told_69 : decode b_MM_told 69 = .ok (.ireturn, 1) := by decide +kernel
theorem d_MM_told_70 : decode b_MM_told 70 = .ok (.aload_n 3, 1) := by decide +kernel
theorem d_MM_told_71 : decode b_MM_told 71 = .ok (.getfield 205, 3) := by decide +kernel
theorem d_MM_told_74 : decode b_MM_told 74 = .ok (.ireturn, 1) := by decide +kernel
theorem d_MM_told_75 : decode b_MM_told 75 = .ok (.aload_n 3, 1) := by decide +kernel
theorem d_MM_told_76 : decode b_MM_told 76 = .ok (.getfield 208, 3) := by decide +kernel
theorem d_MM_told_79 : decode b_MM_told 79 = .ok (.ireturn, 1) := by decide +kernel
theorem d_MM_told_80 : decode b_MM_told 80 = .ok (.new 183, 3) := by decide +kernel
theorem d_MM_told_83 : decode b_MM_told 83 = .ok (.dup, 1) := by decide +kernel
theorem d_MM_told_84 : decode b_MM_told 84 = .ok (.ldc 211, 2) := by decide +kernel
theorem d_MM_told_86 : decode b_MM_told 86 = .ok (.invokespecial 187, 3) := by decide +kernel
theorem d_MM_told_89 : decode b_MM_told 89 = .ok (.athrow, 1) := by decide +kernel
theorem d_MM_author_0 : decode b_MM_author 0 = .ok (.aload_n 0, 1) := by decide +kernel
theorem d_MM_author_1 : decode b_MM_author 1 = .ok (.iload_n 1, 1) := by decide +kernel
theorem d_MM_author_2 : decode b_MM_author 2 = .ok (.invokevirtual 72, 3) := by decide +kernel
theorem d_MM_author_5 : decode b_MM_author 5 = .ok (.astore_n 2, 1) := by decide +kernel
theorem d_MM_author_6 : decode b_MM_author 6 = .ok (.aload_n 2, 1) := by decide +kernel
theorem d_MM_author_7 : decode b_MM_author 7 = .ok (.getfield 213, 3) := by decide +kernel
theorem d_MM_author_10 : decode b_MM_author 10 = .ok (.iconst (-1), 1) := by decide +kernel
theorem d_MM_author_11 : decode b_MM_author 11 = .ok (.if_icmp .ne 13, 3) := by decide +kernel
theorem d_MM_author_14 : decode b_MM_author 14 = .ok (.new 183, 3) := by decide +kernel
theorem d_MM_author_17 : decode b_MM_author 17 = .ok (.dup, 1) := by decide +kernel
theorem d_MM_author_18 : decode b_MM_author 18 = .ok (.ldc 216, 2) := by decide +kernel
theorem d_MM_author_20 : decode b_MM_author 20 = .ok (.invokespecial 187, 3) := by decide +kernel
theorem d_MM_author_23 : decode b_MM_author 23 = .ok (.athrow, 1) := by decide +kernel
theorem d_MM_author_24 : decode b_MM_author 24 = .ok (.aload_n 2, 1) := by decide +kernel
theorem d_MM_author_25 : decode b_MM_author 25 = .ok (.getfield 213, 3) := by decide +kernel
theorem d_MM_author_28 : decode b_MM_author 28 = .ok (.ireturn, 1) := by decide +kernel
theorem d_MM_count_0 : decode b_MM_count 0 = .ok (.iload_n 1, 1) := by decide +kernel
theorem d_MM_count_1 : decode b_MM_count 1 = .ok (.tableswitch 51 0 3 #[31, 36, 41, 46], 31) := by decide +kernel
theorem d_MM_count_32 : decode b_MM_count 32 = .ok (.aload_n 0, 1) := by decide +kernel
theorem d_MM_count_33 : decode b_MM_count 33 = .ok (.getfield 35, 3) := by decide +kernel
theorem d_MM_count_36 : decode b_MM_count 36 = .ok (.ireturn, 1) := by decide +kernel
theorem d_MM_count_37 : decode b_MM_count 37 = .ok (.aload_n 0, 1) := by decide +kernel
theorem d_MM_count_38 : decode b_MM_count 38 = .ok (.getfield 16, 3) := by decide +kernel
theorem d_MM_count_41 : decode b_MM_count 41 = .ok (.ireturn, 1) := by decide +kernel
theorem d_MM_count_42 : decode b_MM_count 42 = .ok (.aload_n 0, 1) := by decide +kernel
theorem d_MM_count_43 : decode b_MM_count 43 = .ok (.getfield 26, 3) := by decide +kernel
theorem d_MM_count_46 : decode b_MM_count 46 = .ok (.ireturn, 1) := by decide +kernel
theorem d_MM_count_47 : decode b_MM_count 47 = .ok (.aload_n 0, 1) := by decide +kernel
theorem d_MM_count_48 : decode b_MM_count 48 = .ok (.getfield 44, 3) := by decide +kernel
theorem d_MM_count_51 : decode b_MM_count 51 = .ok (.ireturn, 1) := by decide +kernel
theorem d_MM_count_52 : decode b_MM_count 52 = .ok (.new 183, 3) := by decide +kernel
theorem d_MM_count_55 : decode b_MM_count 55 = .ok (.dup, 1) := by decide +kernel
theorem d_MM_count_56 : decode b_MM_count 56 = .ok (.ldc 218, 2) := by decide +kernel
theorem d_MM_count_58 : decode b_MM_count 58 = .ok (.invokespecial 187, 3) := by decide +kernel
theorem d_MM_count_61 : decode b_MM_count 61 = .ok (.athrow, 1) := by decide +kernel
theorem d_MM_differs_0 : decode b_MM_differs 0 = .ok (.aload_n 0, 1) := by decide +kernel
theorem d_MM_differs_1 : decode b_MM_differs 1 = .ok (.iload_n 1, 1) := by decide +kernel
theorem d_MM_differs_2 : decode b_MM_differs 2 = .ok (.invokevirtual 72, 3) := by decide +kernel
theorem d_MM_differs_5 : decode b_MM_differs 5 = .ok (.getfield 147, 3) := by decide +kernel
theorem d_MM_differs_8 : decode b_MM_differs 8 = .ok (.astore 4, 2) := by decide +kernel
theorem d_MM_differs_10 : decode b_MM_differs 10 = .ok (.aload_n 0, 1) := by decide +kernel
theorem d_MM_differs_11 : decode b_MM_differs 11 = .ok (.iload_n 2, 1) := by decide +kernel
theorem d_MM_differs_12 : decode b_MM_differs 12 = .ok (.invokevirtual 72, 3) := by decide +kernel
theorem d_MM_differs_15 : decode b_MM_differs 15 = .ok (.getfield 147, 3) := by decide +kernel
theorem d_MM_differs_18 : decode b_MM_differs 18 = .ok (.astore 5, 2) := by decide +kernel
theorem d_MM_differs_20 : decode b_MM_differs 20 = .ok (.iload_n 3, 1) := by decide +kernel
theorem d_MM_differs_21 : decode b_MM_differs 21 = .ok (.invokestatic 220, 3) := by decide +kernel
theorem d_MM_differs_24 : decode b_MM_differs 24 = .ok (.iload_n 3, 1) := by decide +kernel
theorem d_MM_differs_25 : decode b_MM_differs 25 = .ok (.istore 6, 2) := by decide +kernel
theorem d_MM_differs_27 : decode b_MM_differs 27 = .ok (.iconst 0, 1) := by decide +kernel
theorem d_MM_differs_28 : decode b_MM_differs 28 = .ok (.istore 7, 2) := by decide +kernel
theorem d_MM_differs_30 : decode b_MM_differs 30 = .ok (.iload 7, 2) := by decide +kernel
theorem d_MM_differs_32 : decode b_MM_differs 32 = .ok (.aload_n 0, 1) := by decide +kernel
theorem d_MM_differs_33 : decode b_MM_differs 33 = .ok (.getfield 16, 3) := by decide +kernel
theorem d_MM_differs_36 : decode b_MM_differs 36 = .ok (.if_icmp .ge 54, 3) := by decide +kernel
theorem d_MM_differs_39 : decode b_MM_differs 39 = .ok (.iconst 0, 1) := by decide +kernel
theorem d_MM_differs_40 : decode b_MM_differs 40 = .ok (.istore 8, 2) := by decide +kernel
theorem d_MM_differs_42 : decode b_MM_differs 42 = .ok (.iload 8, 2) := by decide +kernel
theorem d_MM_differs_44 : decode b_MM_differs 44 = .ok (.iconst 5, 1) := by decide +kernel
theorem d_MM_differs_45 : decode b_MM_differs 45 = .ok (.if_icmp .ge 39, 3) := by decide +kernel
theorem d_MM_differs_48 : decode b_MM_differs 48 = .ok (.aload 4, 2) := by decide +kernel
theorem d_MM_differs_50 : decode b_MM_differs 50 = .ok (.aload 5, 2) := by decide +kernel
theorem d_MM_differs_52 : decode b_MM_differs 52 = .ok (.iload 7, 2) := by decide +kernel
theorem d_MM_differs_54 : decode b_MM_differs 54 = .ok (.iload 8, 2) := by decide +kernel
theorem d_MM_differs_56 : decode b_MM_differs 56 = .ok (.invokestatic 223, 3) := by decide +kernel
theorem d_MM_differs_59 : decode b_MM_differs 59 = .ok (.ifCond .eq 19, 3) := by decide +kernel
theorem d_MM_differs_62 : decode b_MM_differs 62 = .ok (.iload 6, 2) := by decide +kernel
theorem d_MM_differs_64 : decode b_MM_differs 64 = .ok (.ifCond .ne 11, 3) := by decide +kernel
theorem d_MM_differs_67 : decode b_MM_differs 67 = .ok (.iconst 5, 1) := by decide +kernel
theorem d_MM_differs_68 : decode b_MM_differs 68 = .ok (.iload 7, 2) := by decide +kernel
theorem d_MM_differs_70 : decode b_MM_differs 70 = .ok (.imul, 1) := by decide +kernel
theorem d_MM_differs_71 : decode b_MM_differs 71 = .ok (.iload 8, 2) := by decide +kernel
theorem d_MM_differs_73 : decode b_MM_differs 73 = .ok (.iadd, 1) := by decide +kernel
theorem d_MM_differs_74 : decode b_MM_differs 74 = .ok (.ireturn, 1) := by decide +kernel
theorem d_MM_differs_75 : decode b_MM_differs 75 = .ok (.iinc 6 (-1), 3) := by decide +kernel
theorem d_MM_differs_78 : decode b_MM_differs 78 = .ok (.iinc 8 1, 3) := by decide +kernel
theorem d_MM_differs_81 : decode b_MM_differs 81 = .ok (.goto (-39), 3) := by decide +kernel
theorem d_MM_differs_84 : decode b_MM_differs 84 = .ok (.iinc 7 1, 3) := by decide +kernel
theorem d_MM_differs_87 : decode b_MM_differs 87 = .ok (.goto (-57), 3) := by decide +kernel
theorem d_MM_differs_90 : decode b_MM_differs 90 = .ok (.iconst (-1), 1) := by decide +kernel
theorem d_MM_differs_91 : decode b_MM_differs 91 = .ok (.ireturn, 1) := by decide +kernel
theorem d_MM_broken_0 : decode b_MM_broken 0 = .ok (.aload_n 0, 1) := by decide +kernel
theorem d_MM_broken_1 : decode b_MM_broken 1 = .ok (.iload_n 1, 1) := by decide +kernel
theorem d_MM_broken_2 : decode b_MM_broken 2 = .ok (.invokevirtual 72, 3) := by decide +kernel
theorem d_MM_broken_5 : decode b_MM_broken 5 = .ok (.getfield 147, 3) := by decide +kernel
theorem d_MM_broken_8 : decode b_MM_broken 8 = .ok (.astore_n 3, 1) := by decide +kernel
theorem d_MM_broken_9 : decode b_MM_broken 9 = .ok (.iload_n 2, 1) := by decide +kernel
theorem d_MM_broken_10 : decode b_MM_broken 10 = .ok (.invokestatic 220, 3) := by decide +kernel
theorem d_MM_broken_13 : decode b_MM_broken 13 = .ok (.iload_n 2, 1) := by decide +kernel
theorem d_MM_broken_14 : decode b_MM_broken 14 = .ok (.istore 4, 2) := by decide +kernel
theorem d_MM_broken_16 : decode b_MM_broken 16 = .ok (.iconst 0, 1) := by decide +kernel
theorem d_MM_broken_17 : decode b_MM_broken 17 = .ok (.istore 5, 2) := by decide +kernel
theorem d_MM_broken_19 : decode b_MM_broken 19 = .ok (.iload 5, 2) := by decide +kernel
theorem d_MM_broken_21 : decode b_MM_broken 21 = .ok (.aload_n 0, 1) := by decide +kernel
theorem d_MM_broken_22 : decode b_MM_broken 22 = .ok (.getfield 44, 3) := by decide +kernel
theorem d_MM_broken_25 : decode b_MM_broken 25 = .ok (.if_icmp .ge 68, 3) := by decide +kernel
theorem d_MM_broken_28 : decode b_MM_broken 28 = .ok (.iload 5, 2) := by decide +kernel
theorem d_MM_broken_30 : decode b_MM_broken 30 = .ok (.bipush 10, 2) := by decide +kernel
theorem d_MM_broken_32 : decode b_MM_broken 32 = .ok (.if_icmp .ge 61, 3) := by decide +kernel
theorem d_MM_broken_35 : decode b_MM_broken 35 = .ok (.iconst 0, 1) := by decide +kernel
theorem d_MM_broken_36 : decode b_MM_broken 36 = .ok (.istore 6, 2) := by decide +kernel
theorem d_MM_broken_38 : decode b_MM_broken 38 = .ok (.iload 6, 2) := by decide +kernel
theorem d_MM_broken_40 : decode b_MM_broken 40 = .ok (.aload_n 0, 1) := by decide +kernel
theorem d_MM_broken_41 : decode b_MM_broken 41 = .ok (.getfield 16, 3) := by decide +kernel
theorem d_MM_broken_44 : decode b_MM_broken 44 = .ok (.if_icmp .ge 43, 3) := by decide +kernel
theorem d_MM_broken_47 : decode b_MM_broken 47 = .ok (.aload_n 0, 1) := by decide +kernel
theorem d_MM_broken_48 : decode b_MM_broken 48 = .ok (.aload_n 0, 1) := by decide +kernel
theorem d_MM_broken_49 : decode b_MM_broken 49 = .ok (.getfield 40, 3) := by decide +kernel
theorem d_MM_broken_52 : decode b_MM_broken 52 = .ok (.iload 5, 2) := by decide +kernel
theorem d_MM_broken_54 : decode b_MM_broken 54 = .ok (.aaload, 1) := by decide +kernel
theorem d_MM_broken_55 : decode b_MM_broken 55 = .ok (.aload_n 3, 1) := by decide +kernel
theorem d_MM_broken_56 : decode b_MM_broken 56 = .ok (.iload 6, 2) := by decide +kernel
theorem d_MM_broken_58 : decode b_MM_broken 58 = .ok (.invokevirtual 227, 3) := by decide +kernel
theorem d_MM_broken_61 : decode b_MM_broken 61 = .ok (.ifCond .eq 20, 3) := by decide +kernel
theorem d_MM_broken_64 : decode b_MM_broken 64 = .ok (.iload 4, 2) := by decide +kernel
theorem d_MM_broken_66 : decode b_MM_broken 66 = .ok (.ifCond .ne 12, 3) := by decide +kernel
theorem d_MM_broken_69 : decode b_MM_broken 69 = .ok (.bipush 60, 2) := by decide +kernel
theorem d_MM_broken_71 : decode b_MM_broken 71 = .ok (.iload 5, 2) := by decide +kernel
theorem d_MM_broken_73 : decode b_MM_broken 73 = .ok (.imul, 1) := by decide +kernel
theorem d_MM_broken_74 : decode b_MM_broken 74 = .ok (.iload 6, 2) := by decide +kernel
theorem d_MM_broken_76 : decode b_MM_broken 76 = .ok (.iadd, 1) := by decide +kernel
theorem d_MM_broken_77 : decode b_MM_broken 77 = .ok (.ireturn, 1) := by decide +kernel
theorem d_MM_broken_78 : decode b_MM_broken 78 = .ok (.iinc 4 (-1), 3) := by decide +kernel
theorem d_MM_broken_81 : decode b_MM_broken 81 = .ok (.iinc 6 1, 3) := by decide +kernel
theorem d_MM_broken_84 : decode b_MM_broken 84 = .ok (.goto (-46), 3) := by decide +kernel
theorem d_MM_broken_87 : decode b_MM_broken 87 = .ok (.iinc 5 1, 3) := by decide +kernel
theorem d_MM_broken_90 : decode b_MM_broken 90 = .ok (.goto (-71), 3) := by decide +kernel
theorem d_MM_broken_93 : decode b_MM_broken 93 = .ok (.iconst (-1), 1) := by decide +kernel
theorem d_MM_broken_94 : decode b_MM_broken 94 = .ok (.ireturn, 1) := by decide +kernel
theorem d_MM_checkBelow_0 : decode b_MM_checkBelow 0 = .ok (.iload_n 0, 1) := by decide +kernel
theorem d_MM_checkBelow_1 : decode b_MM_checkBelow 1 = .ok (.ifCond .lt 8, 3) := by decide +kernel
theorem d_MM_checkBelow_4 : decode b_MM_checkBelow 4 = .ok (.iload_n 0, 1) := by decide +kernel
theorem d_MM_checkBelow_5 : decode b_MM_checkBelow 5 = .ok (.iload_n 1, 1) := by decide +kernel
theorem d_MM_checkBelow_6 : decode b_MM_checkBelow 6 = .ok (.if_icmp .lt 13, 3) := by decide +kernel
theorem d_MM_checkBelow_9 : decode b_MM_checkBelow 9 = .ok (.new 183, 3) := by decide +kernel
theorem d_MM_checkBelow_12 : decode b_MM_checkBelow 12 = .ok (.dup, 1) := by decide +kernel
theorem d_MM_checkBelow_13 : decode b_MM_checkBelow 13 = .ok (.ldc 231, 2) := by decide +kernel
theorem d_MM_checkBelow_15 : decode b_MM_checkBelow 15 = .ok (.invokespecial 187, 3) := by decide +kernel
theorem d_MM_checkBelow_18 : decode b_MM_checkBelow 18 = .ok (.athrow, 1) := by decide +kernel
theorem d_MM_checkBelow_19 : decode b_MM_checkBelow 19 = .ok (.return_, 1) := by decide +kernel
theorem d_MM_checkNotNegative_0 : decode b_MM_checkNotNegative 0 = .ok (.iload_n 0, 1) := by decide +kernel
theorem d_MM_checkNotNegative_1 : decode b_MM_checkNotNegative 1 = .ok (.ifCond .ge 13, 3) := by decide +kernel
theorem d_MM_checkNotNegative_4 : decode b_MM_checkNotNegative 4 = .ok (.new 183, 3) := by decide +kernel
theorem d_MM_checkNotNegative_7 : decode b_MM_checkNotNegative 7 = .ok (.dup, 1) := by decide +kernel
theorem d_MM_checkNotNegative_8 : decode b_MM_checkNotNegative 8 = .ok (.ldc 233, 2) := by decide +kernel
theorem d_MM_checkNotNegative_10 : decode b_MM_checkNotNegative 10 = .ok (.invokespecial 187, 3) := by decide +kernel
theorem d_MM_checkNotNegative_13 : decode b_MM_checkNotNegative 13 = .ok (.athrow, 1) := by decide +kernel
theorem d_MM_checkNotNegative_14 : decode b_MM_checkNotNegative 14 = .ok (.return_, 1) := by decide +kernel
theorem d_MM_checkSide_0 : decode b_MM_checkSide 0 = .ok (.iload_n 0, 1) := by decide +kernel
theorem d_MM_checkSide_1 : decode b_MM_checkSide 1 = .ok (.ifCond .eq 18, 3) := by decide +kernel
theorem d_MM_checkSide_4 : decode b_MM_checkSide 4 = .ok (.iload_n 0, 1) := by decide +kernel
theorem d_MM_checkSide_5 : decode b_MM_checkSide 5 = .ok (.iconst 1, 1) := by decide +kernel
theorem d_MM_checkSide_6 : decode b_MM_checkSide 6 = .ok (.if_icmp .eq 13, 3) := by decide +kernel
theorem d_MM_checkSide_9 : decode b_MM_checkSide 9 = .ok (.new 183, 3) := by decide +kernel
theorem d_MM_checkSide_12 : decode b_MM_checkSide 12 = .ok (.dup, 1) := by decide +kernel
theorem d_MM_checkSide_13 : decode b_MM_checkSide 13 = .ok (.ldc 235, 2) := by decide +kernel
theorem d_MM_checkSide_15 : decode b_MM_checkSide 15 = .ok (.invokespecial 187, 3) := by decide +kernel
theorem d_MM_checkSide_18 : decode b_MM_checkSide 18 = .ok (.athrow, 1) := by decide +kernel
theorem d_MM_checkSide_19 : decode b_MM_checkSide 19 = .ok (.return_, 1) := by decide +kernel
theorem d_MM_checkThing_0 : decode b_MM_checkThing 0 = .ok (.aload_n 0, 1) := by decide +kernel
theorem d_MM_checkThing_1 : decode b_MM_checkThing 1 = .ok (.iload_n 1, 1) := by decide +kernel
theorem d_MM_checkThing_2 : decode b_MM_checkThing 2 = .ok (.invokevirtual 237, 3) := by decide +kernel
theorem d_MM_checkThing_5 : decode b_MM_checkThing 5 = .ok (.ifCond .ne 13, 3) := by decide +kernel
theorem d_MM_checkThing_8 : decode b_MM_checkThing 8 = .ok (.new 183, 3) := by decide +kernel
theorem d_MM_checkThing_11 : decode b_MM_checkThing 11 = .ok (.dup, 1) := by decide +kernel
theorem d_MM_checkThing_12 : decode b_MM_checkThing 12 = .ok (.ldc 241, 2) := by decide +kernel
theorem d_MM_checkThing_14 : decode b_MM_checkThing 14 = .ok (.invokespecial 187, 3) := by decide +kernel
theorem d_MM_checkThing_17 : decode b_MM_checkThing 17 = .ok (.athrow, 1) := by decide +kernel
theorem d_MM_checkThing_18 : decode b_MM_checkThing 18 = .ok (.return_, 1) := by decide +kernel
theorem d_MM_checkField_0 : decode b_MM_checkField 0 = .ok (.aload_n 0, 1) := by decide +kernel
theorem d_MM_checkField_1 : decode b_MM_checkField 1 = .ok (.iload_n 2, 1) := by decide +kernel
theorem d_MM_checkField_2 : decode b_MM_checkField 2 = .ok (.invokevirtual 113, 3) := by decide +kernel
theorem d_MM_checkField_5 : decode b_MM_checkField 5 = .ok (.iload_n 3, 1) := by decide +kernel
theorem d_MM_checkField_6 : decode b_MM_checkField 6 = .ok (.iconst 5, 1) := by decide +kernel
theorem d_MM_checkField_7 : decode b_MM_checkField 7 = .ok (.invokestatic 68, 3) := by decide +kernel
theorem d_MM_checkField_10 : decode b_MM_checkField 10 = .ok (.aload_n 1, 1) := by decide +kernel
theorem d_MM_checkField_11 : decode b_MM_checkField 11 = .ok (.iload_n 2, 1) := by decide +kernel
theorem d_MM_checkField_12 : decode b_MM_checkField 12 = .ok (.invokevirtual 243, 3) := by decide +kernel
theorem d_MM_checkField_15 : decode b_MM_checkField 15 = .ok (.ifCond .ne 13, 3) := by decide +kernel
theorem d_MM_checkField_18 : decode b_MM_checkField 18 = .ok (.new 183, 3) := by decide +kernel
theorem d_MM_checkField_21 : decode b_MM_checkField 21 = .ok (.dup, 1) := by decide +kernel
theorem d_MM_checkField_22 : decode b_MM_checkField 22 = .ok (.ldc 246, 2) := by decide +kernel
theorem d_MM_checkField_24 : decode b_MM_checkField 24 = .ok (.invokespecial 187, 3) := by decide +kernel
theorem d_MM_checkField_27 : decode b_MM_checkField 27 = .ok (.athrow, 1) := by decide +kernel
theorem d_MM_checkField_28 : decode b_MM_checkField 28 = .ok (.return_, 1) := by decide +kernel
theorem d_MM_checkOpen_0 : decode b_MM_checkOpen 0 = .ok (.aload_n 0, 1) := by decide +kernel
theorem d_MM_checkOpen_1 : decode b_MM_checkOpen 1 = .ok (.getfield 135, 3) := by decide +kernel
theorem d_MM_checkOpen_4 : decode b_MM_checkOpen 4 = .ok (.ifCond .eq 13, 3) := by decide +kernel
theorem d_MM_checkOpen_7 : decode b_MM_checkOpen 7 = .ok (.new 76, 3) := by decide +kernel
theorem d_MM_checkOpen_10 : decode b_MM_checkOpen 10 = .ok (.dup, 1) := by decide +kernel
theorem d_MM_checkOpen_11 : decode b_MM_checkOpen 11 = .ok (.ldc 248, 2) := by decide +kernel
theorem d_MM_checkOpen_13 : decode b_MM_checkOpen 13 = .ok (.invokespecial 80, 3) := by decide +kernel
theorem d_MM_checkOpen_16 : decode b_MM_checkOpen 16 = .ok (.athrow, 1) := by decide +kernel
theorem d_MM_checkOpen_17 : decode b_MM_checkOpen 17 = .ok (.return_, 1) := by decide +kernel
theorem d_MM_sessionOf_0 : decode b_MM_sessionOf 0 = .ok (.iload_n 1, 1) := by decide +kernel
theorem d_MM_sessionOf_1 : decode b_MM_sessionOf 1 = .ok (.ifCond .lt 18, 3) := by decide +kernel
theorem d_MM_sessionOf_4 : decode b_MM_sessionOf 4 = .ok (.iload_n 1, 1) := by decide +kernel
theorem d_MM_sessionOf_5 : decode b_MM_sessionOf 5 = .ok (.bipush 20, 2) := by decide +kernel
theorem d_MM_sessionOf_7 : decode b_MM_sessionOf 7 = .ok (.if_icmp .ge 12, 3) := by decide +kernel
theorem d_MM_sessionOf_10 : decode b_MM_sessionOf 10 = .ok (.aload_n 0, 1) := by decide +kernel
theorem d_MM_sessionOf_11 : decode b_MM_sessionOf 11 = .ok (.getfield 22, 3) := by decide +kernel
theorem d_MM_sessionOf_14 : decode b_MM_sessionOf 14 = .ok (.iload_n 1, 1) := by decide +kernel
theorem d_MM_sessionOf_15 : decode b_MM_sessionOf 15 = .ok (.aaload, 1) := by decide +kernel
theorem d_MM_sessionOf_16 : decode b_MM_sessionOf 16 = .ok (.goto 4, 3) := by decide +kernel
theorem d_MM_sessionOf_19 : decode b_MM_sessionOf 19 = .ok (.aconst_null, 1) := by decide +kernel
theorem d_MM_sessionOf_20 : decode b_MM_sessionOf 20 = .ok (.astore_n 2, 1) := by decide +kernel
theorem d_MM_sessionOf_21 : decode b_MM_sessionOf 21 = .ok (.aload_n 2, 1) := by decide +kernel
theorem d_MM_sessionOf_22 : decode b_MM_sessionOf 22 = .ok (.ifnonnull 13, 3) := by decide +kernel
theorem d_MM_sessionOf_25 : decode b_MM_sessionOf 25 = .ok (.new 183, 3) := by decide +kernel
theorem d_MM_sessionOf_28 : decode b_MM_sessionOf 28 = .ok (.dup, 1) := by decide +kernel
theorem d_MM_sessionOf_29 : decode b_MM_sessionOf 29 = .ok (.ldc 250, 2) := by decide +kernel
theorem d_MM_sessionOf_31 : decode b_MM_sessionOf 31 = .ok (.invokespecial 187, 3) := by decide +kernel
theorem d_MM_sessionOf_34 : decode b_MM_sessionOf 34 = .ok (.athrow, 1) := by decide +kernel
theorem d_MM_sessionOf_35 : decode b_MM_sessionOf 35 = .ok (.aload_n 2, 1) := by decide +kernel
theorem d_MM_sessionOf_36 : decode b_MM_sessionOf 36 = .ok (.areturn, 1) := by decide +kernel
