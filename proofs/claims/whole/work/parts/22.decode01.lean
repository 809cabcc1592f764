theorem d_MM_versionOf_0 : decode b_MM_versionOf 0 = .ok (.iload_n 1, 1) := by decide +kernel
theorem d_MM_versionOf_1 : decode b_MM_versionOf 1 = .ok (.ifCond .lt 18, 3) := by decide +kernel
theorem d_MM_versionOf_4 : decode b_MM_versionOf 4 = .ok (.iload_n 1, 1) := by decide +kernel
theorem d_MM_versionOf_5 : decode b_MM_versionOf 5 = .ok (.bipush 40, 2) := by decide +kernel
theorem d_MM_versionOf_7 : decode b_MM_versionOf 7 = .ok (.if_icmp .ge 12, 3) := by decide +kernel
theorem d_MM_versionOf_10 : decode b_MM_versionOf 10 = .ok (.aload_n 0, 1) := by decide +kernel
theorem d_MM_versionOf_11 : decode b_MM_versionOf 11 = .ok (.getfield 31, 3) := by decide +kernel
theorem d_MM_versionOf_14 : decode b_MM_versionOf 14 = .ok (.iload_n 1, 1) := by decide +kernel
theorem d_MM_versionOf_15 : decode b_MM_versionOf 15 = .ok (.aaload, 1) := by decide +kernel
theorem d_MM_versionOf_16 : decode b_MM_versionOf 16 = .ok (.goto 4, 3) := by decide +kernel
theorem d_MM_versionOf_19 : decode b_MM_versionOf 19 = .ok (.aconst_null, 1) := by decide +kernel
theorem d_MM_versionOf_20 : decode b_MM_versionOf 20 = .ok (.astore_n 2, 1) := by decide +kernel
theorem d_MM_versionOf_21 : decode b_MM_versionOf 21 = .ok (.aload_n 2, 1) := by decide +kernel
theorem d_MM_versionOf_22 : decode b_MM_versionOf 22 = .ok (.ifnonnull 13, 3) := by decide +kernel
theorem d_MM_versionOf_25 : decode b_MM_versionOf 25 = .ok (.new 183, 3) := by decide +kernel
theorem d_MM_versionOf_28 : decode b_MM_versionOf 28 = .ok (.dup, 1) := by decide +kernel
theorem d_MM_versionOf_29 : decode b_MM_versionOf 29 = .ok (.ldc 252, 2) := by decide +kernel
theorem d_MM_versionOf_31 : decode b_MM_versionOf 31 = .ok (.invokespecial 187, 3) := by decide +kernel
theorem d_MM_versionOf_34 : decode b_MM_versionOf 34 = .ok (.athrow, 1) := by decide +kernel
theorem d_MM_versionOf_35 : decode b_MM_versionOf 35 = .ok (.aload_n 2, 1) := by decide +kernel
theorem d_MM_versionOf_36 : decode b_MM_versionOf 36 = .ok (.areturn, 1) := by decide +kernel
theorem d_MM_pendingWithConflict_0 : decode b_MM_pendingWithConflict 0 = .ok (.iload_n 1, 1) := by decide +kernel
theorem d_MM_pendingWithConflict_1 : decode b_MM_pendingWithConflict 1 = .ok (.invokestatic 220, 3) := by decide +kernel
theorem d_MM_pendingWithConflict_4 : decode b_MM_pendingWithConflict 4 = .ok (.aload_n 0, 1) := by decide +kernel
theorem d_MM_pendingWithConflict_5 : decode b_MM_pendingWithConflict 5 = .ok (.getfield 54, 3) := by decide +kernel
theorem d_MM_pendingWithConflict_8 : decode b_MM_pendingWithConflict 8 = .ok (.astore_n 2, 1) := by decide +kernel
theorem d_MM_pendingWithConflict_9 : decode b_MM_pendingWithConflict 9 = .ok (.aload_n 2, 1) := by decide +kernel
theorem d_MM_pendingWithConflict_10 : decode b_MM_pendingWithConflict 10 = .ok (.ifnonnull 13, 3) := by decide +kernel
theorem d_MM_pendingWithConflict_13 : decode b_MM_pendingWithConflict 13 = .ok (.new 76, 3) := by decide +kernel
theorem d_MM_pendingWithConflict_16 : decode b_MM_pendingWithConflict 16 = .ok (.dup, 1) := by decide +kernel
theorem d_MM_pendingWithConflict_17 : decode b_MM_pendingWithConflict 17 = .ok (.ldc 168, 2) := by decide +kernel
theorem d_MM_pendingWithConflict_19 : decode b_MM_pendingWithConflict 19 = .ok (.invokespecial 80, 3) := by decide +kernel
theorem d_MM_pendingWithConflict_22 : decode b_MM_pendingWithConflict 22 = .ok (.athrow, 1) := by decide +kernel
theorem d_MM_pendingWithConflict_23 : decode b_MM_pendingWithConflict 23 = .ok (.iload_n 1, 1) := by decide +kernel
theorem d_MM_pendingWithConflict_24 : decode b_MM_pendingWithConflict 24 = .ok (.aload_n 0, 1) := by decide +kernel
theorem d_MM_pendingWithConflict_25 : decode b_MM_pendingWithConflict 25 = .ok (.getfield 50, 3) := by decide +kernel
theorem d_MM_pendingWithConflict_28 : decode b_MM_pendingWithConflict 28 = .ok (.getfield 129, 3) := by decide +kernel
theorem d_MM_pendingWithConflict_31 : decode b_MM_pendingWithConflict 31 = .ok (.invokestatic 68, 3) := by decide +kernel
theorem d_MM_pendingWithConflict_34 : decode b_MM_pendingWithConflict 34 = .ok (.aload_n 2, 1) := by decide +kernel
theorem d_MM_pendingWithConflict_35 : decode b_MM_pendingWithConflict 35 = .ok (.areturn, 1) := by decide +kernel
theorem d_MM_isThing_0 : decode b_MM_isThing 0 = .ok (.iload_n 1, 1) := by decide +kernel
theorem d_MM_isThing_1 : decode b_MM_isThing 1 = .ok (.ifCond .lt 21, 3) := by decide +kernel
theorem d_MM_isThing_4 : decode b_MM_isThing 4 = .ok (.iload_n 1, 1) := by decide +kernel
theorem d_MM_isThing_5 : decode b_MM_isThing 5 = .ok (.aload_n 0, 1) := by decide +kernel
theorem d_MM_isThing_6 : decode b_MM_isThing 6 = .ok (.getfield 16, 3) := by decide +kernel
theorem d_MM_isThing_9 : decode b_MM_isThing 9 = .ok (.if_icmp .ge 13, 3) := by decide +kernel
theorem d_MM_isThing_12 : decode b_MM_isThing 12 = .ok (.iload_n 1, 1) := by decide +kernel
theorem d_MM_isThing_13 : decode b_MM_isThing 13 = .ok (.bipush 60, 2) := by decide +kernel
theorem d_MM_isThing_15 : decode b_MM_isThing 15 = .ok (.if_icmp .ge 7, 3) := by decide +kernel
theorem d_MM_isThing_18 : decode b_MM_isThing 18 = .ok (.iconst 1, 1) := by decide +kernel
theorem d_MM_isThing_19 : decode b_MM_isThing 19 = .ok (.goto 4, 3) := by decide +kernel
theorem d_MM_isThing_22 : decode b_MM_isThing 22 = .ok (.iconst 0, 1) := by decide +kernel
theorem d_MM_isThing_23 : decode b_MM_isThing 23 = .ok (.ireturn, 1) := by decide +kernel
theorem d_MM_kindOf_0 : decode b_MM_kindOf 0 = .ok (.aload_n 0, 1) := by decide +kernel
theorem d_MM_kindOf_1 : decode b_MM_kindOf 1 = .ok (.iload_n 1, 1) := by decide +kernel
theorem d_MM_kindOf_2 : decode b_MM_kindOf 2 = .ok (.invokevirtual 237, 3) := by decide +kernel
theorem d_MM_kindOf_5 : decode b_MM_kindOf 5 = .ok (.ifCond .eq 12, 3) := by decide +kernel
theorem d_MM_kindOf_8 : decode b_MM_kindOf 8 = .ok (.aload_n 0, 1) := by decide +kernel
theorem d_MM_kindOf_9 : decode b_MM_kindOf 9 = .ok (.getfield 9, 3) := by decide +kernel
theorem d_MM_kindOf_12 : decode b_MM_kindOf 12 = .ok (.iload_n 1, 1) := by decide +kernel
theorem d_MM_kindOf_13 : decode b_MM_kindOf 13 = .ok (.iaload, 1) := by decide +kernel
theorem d_MM_kindOf_14 : decode b_MM_kindOf 14 = .ok (.goto 4, 3) := by decide +kernel
theorem d_MM_kindOf_17 : decode b_MM_kindOf 17 = .ok (.iconst (-1), 1) := by decide +kernel
theorem d_MM_kindOf_18 : decode b_MM_kindOf 18 = .ok (.ireturn, 1) := by decide +kernel
theorem d_MM_lockerOf_0 : decode b_MM_lockerOf 0 = .ok (.aload_n 0, 1) := by decide +kernel
theorem d_MM_lockerOf_1 : decode b_MM_lockerOf 1 = .ok (.iload_n 1, 1) := by decide +kernel
theorem d_MM_lockerOf_2 : decode b_MM_lockerOf 2 = .ok (.invokevirtual 237, 3) := by decide +kernel
theorem d_MM_lockerOf_5 : decode b_MM_lockerOf 5 = .ok (.ifCond .eq 12, 3) := by decide +kernel
theorem d_MM_lockerOf_8 : decode b_MM_lockerOf 8 = .ok (.aload_n 0, 1) := by decide +kernel
theorem d_MM_lockerOf_9 : decode b_MM_lockerOf 9 = .ok (.getfield 13, 3) := by decide +kernel
theorem d_MM_lockerOf_12 : decode b_MM_lockerOf 12 = .ok (.iload_n 1, 1) := by decide +kernel
theorem d_MM_lockerOf_13 : decode b_MM_lockerOf 13 = .ok (.iaload, 1) := by decide +kernel
theorem d_MM_lockerOf_14 : decode b_MM_lockerOf 14 = .ok (.goto 4, 3) := by decide +kernel
theorem d_MM_lockerOf_17 : decode b_MM_lockerOf 17 = .ok (.iconst (-1), 1) := by decide +kernel
theorem d_MM_lockerOf_18 : decode b_MM_lockerOf 18 = .ok (.ireturn, 1) := by decide +kernel
theorem d_MM_changeThing_0 : decode b_MM_changeThing 0 = .ok (.aload_n 0, 1) := by decide +kernel
theorem d_MM_changeThing_1 : decode b_MM_changeThing 1 = .ok (.iload_n 1, 1) := by decide +kernel
theorem d_MM_changeThing_2 : decode b_MM_changeThing 2 = .ok (.invokevirtual 86, 3) := by decide +kernel
theorem d_MM_changeThing_5 : decode b_MM_changeThing 5 = .ok (.astore 5, 2) := by decide +kernel
theorem d_MM_changeThing_7 : decode b_MM_changeThing 7 = .ok (.aload_n 0, 1) := by decide +kernel
theorem d_MM_changeThing_8 : decode b_MM_changeThing 8 = .ok (.iload_n 2, 1) := by decide +kernel
theorem d_MM_changeThing_9 : decode b_MM_changeThing 9 = .ok (.invokevirtual 113, 3) := by decide +kernel
theorem d_MM_changeThing_12 : decode b_MM_changeThing 12 = .ok (.aload 5, 2) := by decide +kernel
theorem d_MM_changeThing_14 : decode b_MM_changeThing 14 = .ok (.invokestatic 90, 3) := by decide +kernel
theorem d_MM_changeThing_17 : decode b_MM_changeThing 17 = .ok (.aload 5, 2) := by decide +kernel
theorem d_MM_changeThing_19 : decode b_MM_changeThing 19 = .ok (.getfield 155, 3) := by decide +kernel
theorem d_MM_changeThing_22 : decode b_MM_changeThing 22 = .ok (.iload_n 2, 1) := by decide +kernel
theorem d_MM_changeThing_23 : decode b_MM_changeThing 23 = .ok (.invokevirtual 243, 3) := by decide +kernel
theorem d_MM_changeThing_26 : decode b_MM_changeThing 26 = .ok (.ifCond .ne 6, 3) := by decide +kernel
theorem d_MM_changeThing_29 : decode b_MM_changeThing 29 = .ok (.bipush (-3), 2) := by decide +kernel
theorem d_MM_changeThing_31 : decode b_MM_changeThing 31 = .ok (.ireturn, 1) := by decide +kernel
theorem d_MM_changeThing_32 : decode b_MM_changeThing 32 = .ok (.aload_n 0, 1) := by decide +kernel
theorem d_MM_changeThing_33 : decode b_MM_changeThing 33 = .ok (.iload_n 2, 1) := by decide +kernel
theorem d_MM_changeThing_34 : decode b_MM_changeThing 34 = .ok (.invokevirtual 117, 3) := by decide +kernel
theorem d_MM_changeThing_37 : decode b_MM_changeThing 37 = .ok (.istore 6, 2) := by decide +kernel
theorem d_MM_changeThing_39 : decode b_MM_changeThing 39 = .ok (.iload 6, 2) := by decide +kernel
theorem d_MM_changeThing_41 : decode b_MM_changeThing 41 = .ok (.iconst (-1), 1) := by decide +kernel
theorem d_MM_changeThing_42 : decode b_MM_changeThing 42 = .ok (.if_icmp .eq 16, 3) := by decide +kernel
theorem d_MM_changeThing_45 : decode b_MM_changeThing 45 = .ok (.iload 6, 2) := by decide +kernel
theorem d_MM_changeThing_47 : decode b_MM_changeThing 47 = .ok (.aload 5, 2) := by decide +kernel
theorem d_MM_changeThing_49 : decode b_MM_changeThing 49 = .ok (.getfield 191, 3) := by decide +kernel
theorem d_MM_changeThing_52 : decode b_MM_changeThing 52 = .ok (.if_icmp .eq 6, 3) := by decide +kernel
theorem d_MM_changeThing_55 : decode b_MM_changeThing 55 = .ok (.bipush (-2), 2) := by decide +kernel
theorem d_MM_changeThing_57 : decode b_MM_changeThing 57 = .ok (.ireturn, 1) := by decide +kernel
theorem d_MM_changeThing_58 : decode b_MM_changeThing 58 = .ok (.aload 5, 2) := by decide +kernel
theorem d_MM_changeThing_60 : decode b_MM_changeThing 60 = .ok (.invokevirtual 94, 3) := by decide +kernel
theorem d_MM_changeThing_63 : decode b_MM_changeThing 63 = .ok (.ifCond .eq 6, 3) := by decide +kernel
theorem d_MM_changeThing_66 : decode b_MM_changeThing 66 = .ok (.bipush (-4), 2) := by decide +kernel
theorem d_MM_changeThing_68 : decode b_MM_changeThing 68 = .ok (.ireturn, 1) := by decide +kernel
theorem d_MM_changeThing_69 : decode b_MM_changeThing 69 = .ok (.aload 5, 2) := by decide +kernel
theorem d_MM_changeThing_71 : decode b_MM_changeThing 71 = .ok (.iload_n 2, 1) := by decide +kernel
theorem d_MM_changeThing_72 : decode b_MM_changeThing 72 = .ok (.iload_n 3, 1) := by decide +kernel
theorem d_MM_changeThing_73 : decode b_MM_changeThing 73 = .ok (.iload 4, 2) := by decide +kernel
theorem d_MM_changeThing_75 : decode b_MM_changeThing 75 = .ok (.invokevirtual 98, 3) := by decide +kernel
theorem d_MM_changeThing_78 : decode b_MM_changeThing 78 = .ok (.ireturn, 1) := by decide +kernel
theorem d_MM_isDifference_0 : decode b_MM_isDifference 0 = .ok (.aload_n 0, 1) := by decide +kernel
theorem d_MM_isDifference_1 : decode b_MM_isDifference 1 = .ok (.iload_n 2, 1) := by decide +kernel
theorem d_MM_isDifference_2 : decode b_MM_isDifference 2 = .ok (.invokevirtual 243, 3) := by decide +kernel
theorem d_MM_isDifference_5 : decode b_MM_isDifference 5 = .ok (.aload_n 1, 1) := by decide +kernel
theorem d_MM_isDifference_6 : decode b_MM_isDifference 6 = .ok (.iload_n 2, 1) := by decide +kernel
theorem d_MM_isDifference_7 : decode b_MM_isDifference 7 = .ok (.invokevirtual 243, 3) := by decide +kernel
theorem d_MM_isDifference_10 : decode b_MM_isDifference 10 = .ok (.if_icmp .eq 13, 3) := by decide +kernel
theorem d_MM_isDifference_13 : decode b_MM_isDifference 13 = .ok (.iload_n 3, 1) := by decide +kernel
theorem d_MM_isDifference_14 : decode b_MM_isDifference 14 = .ok (.ifCond .ne 7, 3) := by decide +kernel
theorem d_MM_isDifference_17 : decode b_MM_isDifference 17 = .ok (.iconst 1, 1) := by decide +kernel
theorem d_MM_isDifference_18 : decode b_MM_isDifference 18 = .ok (.goto 4, 3) := by decide +kernel
theorem d_MM_isDifference_21 : decode b_MM_isDifference 21 = .ok (.iconst 0, 1) := by decide +kernel
theorem d_MM_isDifference_22 : decode b_MM_isDifference 22 = .ok (.ireturn, 1) := by decide +kernel
theorem d_MM_isDifference_23 : decode b_MM_isDifference 23 = .ok (.aload_n 0, 1) := by decide +kernel
theorem d_MM_isDifference_24 : decode b_MM_isDifference 24 = .ok (.iload_n 2, 1) := by decide +kernel
theorem d_MM_isDifference_25 : decode b_MM_isDifference 25 = .ok (.invokevirtual 243, 3) := by decide +kernel
theorem d_MM_isDifference_28 : decode b_MM_isDifference 28 = .ok (.ifCond .eq 22, 3) := by decide +kernel
theorem d_MM_isDifference_31 : decode b_MM_isDifference 31 = .ok (.aload_n 0, 1) := by decide +kernel
theorem d_MM_isDifference_32 : decode b_MM_isDifference 32 = .ok (.iload_n 2, 1) := by decide +kernel
theorem d_MM_isDifference_33 : decode b_MM_isDifference 33 = .ok (.iload_n 3, 1) := by decide +kernel
theorem d_MM_isDifference_34 : decode b_MM_isDifference 34 = .ok (.invokevirtual 151, 3) := by decide +kernel
theorem d_MM_isDifference_37 : decode b_MM_isDifference 37 = .ok (.aload_n 1, 1) := by decide +kernel
theorem d_MM_isDifference_38 : decode b_MM_isDifference 38 = .ok (.iload_n 2, 1) := by decide +kernel
theorem d_MM_isDifference_39 : decode b_MM_isDifference 39 = .ok (.iload_n 3, 1) := by decide +kernel
theorem d_MM_isDifference_40 : decode b_MM_isDifference 40 = .ok (.invokevirtual 151, 3) := by decide +kernel
theorem d_MM_isDifference_43 : decode b_MM_isDifference 43 = .ok (.if_icmp .eq 7, 3) := by decide +kernel
theorem d_MM_isDifference_46 : decode b_MM_isDifference 46 = .ok (.iconst 1, 1) := by decide +kernel
theorem d_MM_isDifference_47 : decode b_MM_isDifference 47 = .ok (.goto 4, 3) := by decide +kernel
theorem d_MM_isDifference_50 : decode b_MM_isDifference 50 = .ok (.iconst 0, 1) := by decide +kernel
theorem d_MM_isDifference_51 : decode b_MM_isDifference 51 = .ok (.ireturn, 1) := by decide +kernel
theorem d_MM_isBroken_0 : decode b_MM_isBroken 0 = .ok (.aload_n 1, 1) := by decide +kernel
theorem d_MM_isBroken_1 : decode b_MM_isBroken 1 = .ok (.ifnull 23, 3) := by decide +kernel
theorem d_MM_isBroken_4 : decode b_MM_isBroken 4 = .ok (.aload_n 2, 1) := by decide +kernel
theorem d_MM_isBroken_5 : decode b_MM_isBroken 5 = .ok (.iload_n 3, 1) := by decide +kernel
theorem d_MM_isBroken_6 : decode b_MM_isBroken 6 = .ok (.invokevirtual 243, 3) := by decide +kernel
theorem d_MM_isBroken_9 : decode b_MM_isBroken 9 = .ok (.ifCond .eq 15, 3) := by decide +kernel
theorem d_MM_isBroken_12 : decode b_MM_isBroken 12 = .ok (.aload_n 0, 1) := by decide +kernel
theorem d_MM_isBroken_13 : decode b_MM_isBroken 13 = .ok (.iload_n 3, 1) := by decide +kernel
theorem d_MM_isBroken_14 : decode b_MM_isBroken 14 = .ok (.invokevirtual 177, 3) := by decide +kernel
theorem d_MM_isBroken_17 : decode b_MM_isBroken 17 = .ok (.aload_n 1, 1) := by decide +kernel
theorem d_MM_isBroken_18 : decode b_MM_isBroken 18 = .ok (.getfield 254, 3) := by decide +kernel
theorem d_MM_isBroken_21 : decode b_MM_isBroken 21 = .ok (.if_icmp .eq 5, 3) := by decide +kernel
theorem d_MM_isBroken_24 : decode b_MM_isBroken 24 = .ok (.iconst 0, 1) := by decide +kernel
theorem d_MM_isBroken_25 : decode b_MM_isBroken 25 = .ok (.ireturn, 1) := by decide +kernel
theorem d_MM_isBroken_26 : decode b_MM_isBroken 26 = .ok (.aload_n 2, 1) := by decide +kernel
theorem d_MM_isBroken_27 : decode b_MM_isBroken 27 = .ok (.iload_n 3, 1) := by decide +kernel
theorem d_MM_isBroken_28 : decode b_MM_isBroken 28 = .ok (.aload_n 1, 1) := by decide +kernel
theorem d_MM_isBroken_29 : decode b_MM_isBroken 29 = .ok (.getfield 257, 3) := by decide +kernel
theorem d_MM_isBroken_32 : decode b_MM_isBroken 32 = .ok (.invokevirtual 151, 3) := by decide +kernel
theorem d_MM_isBroken_35 : decode b_MM_isBroken 35 = .ok (.istore 4, 2) := by decide +kernel
theorem d_MM_isBroken_37 : decode b_MM_isBroken 37 = .ok (.aload_n 2, 1) := by decide +kernel
theorem d_MM_isBroken_38 : decode b_MM_isBroken 38 = .ok (.iload 4, 2) := by decide +kernel
theorem d_MM_isBroken_40 : decode b_MM_isBroken 40 = .ok (.invokevirtual 243, 3) := by decide +kernel
theorem d_MM_isBroken_43 : decode b_MM_isBroken 43 = .ok (.ifCond .eq 16, 3) := by decide +kernel
theorem d_MM_isBroken_46 : decode b_MM_isBroken 46 = .ok (.aload_n 0, 1) := by decide +kernel
theorem d_MM_isBroken_47 : decode b_MM_isBroken 47 = .ok (.iload 4, 2) := by decide +kernel
theorem d_MM_isBroken_49 : decode b_MM_isBroken 49 = .ok (.invokevirtual 177, 3) := by decide +kernel
theorem d_MM_isBroken_52 : decode b_MM_isBroken 52 = .ok (.aload_n 1, 1) := by decide +kernel
theorem d_MM_isBroken_53 : decode b_MM_isBroken 53 = .ok (.getfield 260, 3) := by decide +kernel
theorem d_MM_isBroken_56 : decode b_MM_isBroken 56 = .ok (.if_icmp .eq 7, 3) := by decide +kernel
theorem d_MM_isBroken_59 : decode b_MM_isBroken 59 = .ok (.iconst 1, 1) := by decide +kernel
theorem d_MM_isBroken_60 : decode b_MM_isBroken 60 = .ok (.goto 4, 3) := by decide +kernel
theorem d_MM_isBroken_63 : decode b_MM_isBroken 63 = .ok (.iconst 0, 1) := by decide +kernel
theorem d_MM_isBroken_64 : decode b_MM_isBroken 64 = .ok (.ireturn, 1) := by decide +kernel
theorem d_MM_findConflicts_0 : decode b_MM_findConflicts 0 = .ok (.aload_n 1, 1) := by decide +kernel
theorem d_MM_findConflicts_1 : decode b_MM_findConflicts 1 = .ok (.getfield 194, 3) := by decide +kernel
theorem d_MM_findConflicts_4 : decode b_MM_findConflicts 4 = .ok (.getfield 147, 3) := by decide +kernel
theorem d_MM_findConflicts_7 : decode b_MM_findConflicts 7 = .ok (.astore_n 2, 1) := by decide +kernel
theorem d_MM_findConflicts_8 : decode b_MM_findConflicts 8 = .ok (.aload_n 0, 1) := by decide +kernel
theorem d_MM_findConflicts_9 : decode b_MM_findConflicts 9 = .ok (.getfield 64, 3) := by decide +kernel
theorem d_MM_findConflicts_12 : decode b_MM_findConflicts 12 = .ok (.getfield 147, 3) := by decide +kernel
theorem d_MM_findConflicts_15 : decode b_MM_findConflicts 15 = .ok (.astore_n 3, 1) := by decide +kernel
theorem d_MM_findConflicts_16 : decode b_MM_findConflicts 16 = .ok (.aload_n 1, 1) := by decide +kernel
theorem d_MM_findConflicts_17 : decode b_MM_findConflicts 17 = .ok (.getfield 155, 3) := by decide +kernel
theorem d_MM_findConflicts_20 : decode b_MM_findConflicts 20 = .ok (.astore 4, 2) := by decide +kernel
theorem d_MM_findConflicts_22 : decode b_MM_findConflicts 22 = .ok (.aload_n 0, 1) := by decide +kernel
theorem d_MM_findConflicts_23 : decode b_MM_findConflicts 23 = .ok (.getfield 50, 3) := by decide +kernel
theorem d_MM_findConflicts_26 : decode b_MM_findConflicts 26 = .ok (.invokevirtual 263, 3) := by decide +kernel
theorem d_MM_findConflicts_29 : decode b_MM_findConflicts 29 = .ok (.iconst 0, 1) := by decide +kernel
theorem d_MM_findConflicts_30 : decode b_MM_findConflicts 30 = .ok (.istore 5, 2) := by decide +kernel
theorem d_MM_findConflicts_32 : decode b_MM_findConflicts 32 = .ok (.iload 5, 2) := by decide +kernel
theorem d_MM_findConflicts_34 : decode b_MM_findConflicts 34 = .ok (.aload_n 0, 1) := by decide +kernel
theorem d_MM_findConflicts_35 : decode b_MM_findConflicts 35 = .ok (.getfield 16, 3) := by decide +kernel
theorem d_MM_findConflicts_38 : decode b_MM_findConflicts 38 = .ok (.if_icmp .ge 63, 3) := by decide +kernel
theorem d_MM_findConflicts_41 : decode b_MM_findConflicts 41 = .ok (.aload_n 2, 1) := by decide +kernel
theorem d_MM_findConflicts_42 : decode b_MM_findConflicts 42 = .ok (.aload_n 3, 1) := by decide +kernel
theorem d_MM_findConflicts_43 : decode b_MM_findConflicts 43 = .ok (.aload 4, 2) := by decide +kernel
theorem d_MM_findConflicts_45 : decode b_MM_findConflicts 45 = .ok (.iload 5, 2) := by decide +kernel
theorem d_MM_findConflicts_47 : decode b_MM_findConflicts 47 = .ok (.invokestatic 266, 3) := by decide +kernel
theorem d_MM_findConflicts_50 : decode b_MM_findConflicts 50 = .ok (.ifCond .eq 16, 3) := by decide +kernel
theorem d_MM_findConflicts_53 : decode b_MM_findConflicts 53 = .ok (.aload_n 0, 1) := by decide +kernel
theorem d_MM_findConflicts_54 : decode b_MM_findConflicts 54 = .ok (.getfield 50, 3) := by decide +kernel
theorem d_MM_findConflicts_57 : decode b_MM_findConflicts 57 = .ok (.iload 5, 2) := by decide +kernel
theorem d_MM_findConflicts_59 : decode b_MM_findConflicts 59 = .ok (.iconst (-1), 1) := by decide +kernel
theorem d_MM_findConflicts_60 : decode b_MM_findConflicts 60 = .ok (.invokevirtual 270, 3) := by decide +kernel
theorem d_MM_findConflicts_63 : decode b_MM_findConflicts 63 = .ok (.goto 32, 3) := by decide +kernel
theorem d_MM_findConflicts_66 : decode b_MM_findConflicts 66 = .ok (.aload_n 3, 1) := by decide +kernel
theorem d_MM_findConflicts_67 : decode b_MM_findConflicts 67 = .ok (.iload 5, 2) := by decide +kernel
theorem d_MM_findConflicts_69 : decode b_MM_findConflicts 69 = .ok (.invokevirtual 243, 3) := by decide +kernel
theorem d_MM_findConflicts_72 : decode b_MM_findConflicts 72 = .ok (.ifCond .eq 23, 3) := by decide +kernel
theorem d_MM_findConflicts_75 : decode b_MM_findConflicts 75 = .ok (.aload 4, 2) := by decide +kernel
theorem d_MM_findConflicts_77 : decode b_MM_findConflicts 77 = .ok (.iload 5, 2) := by decide +kernel
theorem d_MM_findConflicts_79 : decode b_MM_findConflicts 79 = .ok (.invokevirtual 243, 3) := by decide +kernel
theorem d_MM_findConflicts_82 : decode b_MM_findConflicts 82 = .ok (.ifCond .eq 13, 3) := by decide +kernel
theorem d_MM_findConflicts_85 : decode b_MM_findConflicts 85 = .ok (.aload_n 0, 1) := by decide +kernel
theorem d_MM_findConflicts_86 : decode b_MM_findConflicts 86 = .ok (.aload_n 2, 1) := by decide +kernel
theorem d_MM_findConflicts_87 : decode b_MM_findConflicts 87 = .ok (.aload_n 3, 1) := by decide +kernel
theorem d_MM_findConflicts_88 : decode b_MM_findConflicts 88 = .ok (.aload 4, 2) := by decide +kernel
theorem d_MM_findConflicts_90 : decode b_MM_findConflicts 90 = .ok (.iload 5, 2) := by decide +kernel
theorem d_MM_findConflicts_92 : decode b_MM_findConflicts 92 = .ok (.invokevirtual 273, 3) := by decide +kernel
theorem d_MM_findConflicts_95 : decode b_MM_findConflicts 95 = .ok (.iinc 5 1, 3) := by decide +kernel
theorem d_MM_findConflicts_98 : decode b_MM_findConflicts 98 = .ok (.goto (-66), 3) := by decide +kernel
theorem d_MM_findConflicts_101 : decode b_MM_findConflicts 101 = .ok (.return_, 1) := by decide +kernel
theorem d_MM_findFieldConflicts_0 : decode b_MM_findFieldConflicts 0 = .ok (.iconst 0, 1) := by decide +kernel
theorem d_MM_findFieldConflicts_1 : decode b_MM_findFieldConflicts 1 = .ok (.istore 5, 2) := by decide +kernel
theorem d_MM_findFieldConflicts_3 : decode b_MM_findFieldConflicts 3 = .ok (.iload 5, 2) := by decide +kernel
theorem d_MM_findFieldConflicts_5 : decode b_MM_findFieldConflicts 5 = .ok (.iconst 5, 1) := by decide +kernel
theorem d_MM_findFieldConflicts_6 : decode b_MM_findFieldConflicts 6 = .ok (.if_icmp .ge 71, 3) := by decide +kernel
theorem d_MM_findFieldConflicts_9 : decode b_MM_findFieldConflicts 9 = .ok (.aload_n 1, 1) := by decide +kernel
theorem d_MM_findFieldConflicts_10 : decode b_MM_findFieldConflicts 10 = .ok (.iload 4, 2) := by decide +kernel
theorem d_MM_findFieldConflicts_12 : decode b_MM_findFieldConflicts 12 = .ok (.iload 5, 2) := by decide +kernel
theorem d_MM_findFieldConflicts_14 : decode b_MM_findFieldConflicts 14 = .ok (.invokevirtual 151, 3) := by decide +kernel
theorem d_MM_findFieldConflicts_17 : decode b_MM_findFieldConflicts 17 = .ok (.istore 6, 2) := by decide +kernel
theorem d_MM_findFieldConflicts_19 : decode b_MM_findFieldConflicts 19 = .ok (.aload_n 2, 1) := by decide +kernel
theorem d_MM_findFieldConflicts_20 : decode b_MM_findFieldConflicts 20 = .ok (.iload 4, 2) := by decide +kernel
theorem d_MM_findFieldConflicts_22 : decode b_MM_findFieldConflicts 22 = .ok (.iload 5, 2) := by decide +kernel
theorem d_MM_findFieldConflicts_24 : decode b_MM_findFieldConflicts 24 = .ok (.invokevirtual 151, 3) := by decide +kernel
theorem d_MM_findFieldConflicts_27 : decode b_MM_findFieldConflicts 27 = .ok (.istore 7, 2) := by decide +kernel
theorem d_MM_findFieldConflicts_29 : decode b_MM_findFieldConflicts 29 = .ok (.aload_n 3, 1) := by decide +kernel
theorem d_MM_findFieldConflicts_30 : decode b_MM_findFieldConflicts 30 = .ok (.iload 4, 2) := by decide +kernel
theorem d_MM_findFieldConflicts_32 : decode b_MM_findFieldConflicts 32 = .ok (.iload 5, 2) := by decide +kernel
theorem d_MM_findFieldConflicts_34 : decode b_MM_findFieldConflicts 34 = .ok (.invokevirtual 151, 3) := by decide +kernel
theorem d_MM_findFieldConflicts_37 : decode b_MM_findFieldConflicts 37 = .ok (.istore 8, 2) := by decide +kernel
theorem d_MM_findFieldConflicts_39 : decode b_MM_findFieldConflicts 39 = .ok (.iload 7, 2) := by decide +kernel
theorem d_MM_findFieldConflicts_41 : decode b_MM_findFieldConflicts 41 = .ok (.iload 6, 2) := by decide +kernel
theorem d_MM_findFieldConflicts_43 : decode b_MM_findFieldConflicts 43 = .ok (.if_icmp .eq 28, 3) := by decide +kernel
theorem d_MM_findFieldConflicts_46 : decode b_MM_findFieldConflicts 46 = .ok (.iload 8, 2) := by decide +kernel
theorem d_MM_findFieldConflicts_48 : decode b_MM_findFieldConflicts 48 = .ok (.iload 6, 2) := by decide +kernel
theorem d_MM_findFieldConflicts_50 : decode b_MM_findFieldConflicts 50 = .ok (.if_icmp .eq 21, 3) := by decide +kernel
theorem d_MM_findFieldConflicts_53 : decode b_MM_findFieldConflicts 53 = .ok (.iload 7, 2) := by decide +kernel
theorem d_MM_findFieldConflicts_55 : decode b_MM_findFieldConflicts 55 = .ok (.iload 8, 2) := by decide +kernel
theorem d_MM_findFieldConflicts_57 : decode b_MM_findFieldConflicts 57 = .ok (.if_icmp .eq 14, 3) := by decide +kernel
theorem d_MM_findFieldConflicts_60 : decode b_MM_findFieldConflicts 60 = .ok (.aload_n 0, 1) := by decide +kernel
theorem d_MM_findFieldConflicts_61 : decode b_MM_findFieldConflicts 61 = .ok (.getfield 50, 3) := by decide +kernel
theorem d_MM_findFieldConflicts_64 : decode b_MM_findFieldConflicts 64 = .ok (.iload 4, 2) := by decide +kernel
theorem d_MM_findFieldConflicts_66 : decode b_MM_findFieldConflicts 66 = .ok (.iload 5, 2) := by decide +kernel
theorem d_MM_findFieldConflicts_68 : decode b_MM_findFieldConflicts 68 = .ok (.invokevirtual 270, 3) := by decide +kernel
theorem d_MM_findFieldConflicts_71 : decode b_MM_findFieldConflicts 71 = .ok (.iinc 5 1, 3) := by decide +kernel
theorem d_MM_findFieldConflicts_74 : decode b_MM_findFieldConflicts 74 = .ok (.goto (-71), 3) := by decide +kernel
theorem d_MM_findFieldConflicts_77 : decode b_MM_findFieldConflicts 77 = .ok (.return_, 1) := by decide +kernel
theorem d_MM_isDroppedAndChanged_0 : decode b_MM_isDroppedAndChanged 0 = .ok (.aload_n 0, 1) := by decide +kernel
theorem d_MM_isDroppedAndChanged_1 : decode b_MM_isDroppedAndChanged 1 = .ok (.iload_n 3, 1) := by decide +kernel
theorem d_MM_isDroppedAndChanged_2 : decode b_MM_isDroppedAndChanged 2 = .ok (.invokevirtual 243, 3) := by decide +kernel
theorem d_MM_isDroppedAndChanged_5 : decode b_MM_isDroppedAndChanged 5 = .ok (.ifCond .eq 16, 3) := by decide +kernel
theorem d_MM_isDroppedAndChanged_8 : decode b_MM_isDroppedAndChanged 8 = .ok (.aload_n 1, 1) := by decide +kernel
theorem d_MM_isDroppedAndChanged_9 : decode b_MM_isDroppedAndChanged 9 = .ok (.iload_n 3, 1) := by decide +kernel
theorem d_MM_isDroppedAndChanged_10 : decode b_MM_isDroppedAndChanged 10 = .ok (.invokevirtual 243, 3) := by decide +kernel
theorem d_MM_isDroppedAndChanged_13 : decode b_MM_isDroppedAndChanged 13 = .ok (.aload_n 2, 1) := by decide +kernel
theorem d_MM_isDroppedAndChanged_14 : decode b_MM_isDroppedAndChanged 14 = .ok (.iload_n 3, 1) := by decide +kernel
theorem d_MM_isDroppedAndChanged_15 : decode b_MM_isDroppedAndChanged 15 = .ok (.invokevirtual 243, 3) := by decide +kernel
theorem d_MM_isDroppedAndChanged_18 : decode b_MM_isDroppedAndChanged 18 = .ok (.if_icmp .ne 5, 3) := by decide +kernel
theorem d_MM_isDroppedAndChanged_21 : decode b_MM_isDroppedAndChanged 21 = .ok (.iconst 0, 1) := by decide +kernel
theorem d_MM_isDroppedAndChanged_22 : decode b_MM_isDroppedAndChanged 22 = .ok (.ireturn, 1) := by decide +kernel
theorem d_MM_isDroppedAndChanged_23 : decode b_MM_isDroppedAndChanged 23 = .ok (.aload_n 1, 1) := by decide +kernel
theorem d_MM_isDroppedAndChanged_24 : decode b_MM_isDroppedAndChanged 24 = .ok (.iload_n 3, 1) := by decide +kernel
theorem d_MM_isDroppedAndChanged_25 : decode b_MM_isDroppedAndChanged 25 = .ok (.invokevirtual 243, 3) := by decide +kernel
theorem d_MM_isDroppedAndChanged_28 : decode b_MM_isDroppedAndChanged 28 = .ok (.ifCond .eq 7, 3) := by decide +kernel
theorem d_MM_isDroppedAndChanged_31 : decode b_MM_isDroppedAndChanged 31 = .ok (.aload_n 1, 1) := by decide +kernel
theorem d_MM_isDroppedAndChanged_32 : decode b_MM_isDroppedAndChanged 32 = .ok (.goto 4, 3) := by decide +kernel
theorem d_MM_isDroppedAndChanged_35 : decode b_MM_isDroppedAndChanged 35 = .ok (.aload_n 2, 1) := by decide +kernel
theorem d_MM_isDroppedAndChanged_36 : decode b_MM_isDroppedAndChanged 36 = .ok (.astore 4, 2) := by decide +kernel
theorem d_MM_isDroppedAndChanged_38 : decode b_MM_isDroppedAndChanged 38 = .ok (.iconst 0, 1) := by decide +kernel
theorem d_MM_isDroppedAndChanged_39 : decode b_MM_isDroppedAndChanged 39 = .ok (.istore 5, 2) := by decide +kernel
theorem d_MM_isDroppedAndChanged_41 : decode b_MM_isDroppedAndChanged 41 = .ok (.iload 5, 2) := by decide +kernel
theorem d_MM_isDroppedAndChanged_43 : decode b_MM_isDroppedAndChanged 43 = .ok (.iconst 5, 1) := by decide +kernel
theorem d_MM_isDroppedAndChanged_44 : decode b_MM_isDroppedAndChanged 44 = .ok (.if_icmp .ge 29, 3) := by decide +kernel
theorem d_MM_isDroppedAndChanged_47 : decode b_MM_isDroppedAndChanged 47 = .ok (.aload 4, 2) := by decide +kernel
theorem d_MM_isDroppedAndChanged_49 : decode b_MM_isDroppedAndChanged 49 = .ok (.iload_n 3, 1) := by decide +kernel
theorem d_MM_isDroppedAndChanged_50 : decode b_MM_isDroppedAndChanged 50 = .ok (.iload 5, 2) := by decide +kernel
theorem d_MM_isDroppedAndChanged_52 : decode b_MM_isDroppedAndChanged 52 = .ok (.invokevirtual 151, 3) := by decide +kernel
theorem d_MM_isDroppedAndChanged_55 : decode b_MM_isDroppedAndChanged 55 = .ok (.aload_n 0, 1) := by decide +kernel
theorem d_MM_isDroppedAndChanged_56 : decode b_MM_isDroppedAndChanged 56 = .ok (.iload_n 3, 1) := by decide +kernel
theorem d_MM_isDroppedAndChanged_57 : decode b_MM_isDroppedAndChanged 57 = .ok (.iload 5, 2) := by decide +kernel
theorem d_MM_isDroppedAndChanged_59 : decode b_MM_isDroppedAndChanged 59 = .ok (.invokevirtual 151, 3) := by decide +kernel
theorem d_MM_isDroppedAndChanged_62 : decode b_MM_isDroppedAndChanged 62 = .ok (.if_icmp .eq 5, 3) := by decide +kernel
theorem d_MM_isDroppedAndChanged_65 : decode b_MM_isDroppedAndChanged 65 = .ok (.iconst 1, 1) := by decide +kernel
theorem d_MM_isDroppedAndChanged_66 : decode b_MM_isDroppedAndChanged 66 = .ok (.ireturn, 1) := by decide +kernel
theorem d_MM_isDroppedAndChanged_67 : decode b_MM_isDroppedAndChanged 67 = .ok (.iinc 5 1, 3) := by decide +kernel
theorem d_MM_isDroppedAndChanged_70 : decode b_MM_isDroppedAndChanged 70 = .ok (.goto (-29), 3) := by decide +kernel
theorem d_MM_isDroppedAndChanged_73 : decode b_MM_isDroppedAndChanged 73 = .ok (.iconst 0, 1) := by decide +kernel
theorem d_MM_isDroppedAndChanged_74 : decode b_MM_isDroppedAndChanged 74 = .ok (.ireturn, 1) := by decide +kernel
theorem d_MM_finishJoining_0 : decode b_MM_finishJoining 0 = .ok (.aload_n 0, 1) := by decide +kernel
theorem d_MM_finishJoining_1 : decode b_MM_finishJoining 1 = .ok (.getfield 35, 3) := by decide +kernel
theorem d_MM_finishJoining_4 : decode b_MM_finishJoining 4 = .ok (.bipush 40, 2) := by decide +kernel
theorem d_MM_finishJoining_6 : decode b_MM_finishJoining 6 = .ok (.if_icmp .lt 4, 3) := by decide +kernel
theorem d_MM_finishJoining_9 : decode b_MM_finishJoining 9 = .ok (.return_, 1) := by decide +kernel
theorem d_MM_finishJoining_10 : decode b_MM_finishJoining 10 = .ok (.aload_n 0, 1) := by decide +kernel
theorem d_MM_finishJoining_11 : decode b_MM_finishJoining 11 = .ok (.getfield 35, 3) := by decide +kernel
theorem d_MM_finishJoining_14 : decode b_MM_finishJoining 14 = .ok (.istore_n 2, 1) := by decide +kernel
theorem d_MM_finishJoining_15 : decode b_MM_finishJoining 15 = .ok (.new 29, 3) := by decide +kernel
theorem d_MM_finishJoining_18 : decode b_MM_finishJoining 18 = .ok (.dup, 1) := by decide +kernel
theorem d_MM_finishJoining_19 : decode b_MM_finishJoining 19 = .ok (.iload_n 2, 1) := by decide +kernel
theorem d_MM_finishJoining_20 : decode b_MM_finishJoining 20 = .ok (.aload_n 1, 1) := by decide +kernel
theorem d_MM_finishJoining_21 : decode b_MM_finishJoining 21 = .ok (.getfield 170, 3) := by decide +kernel
theorem d_MM_finishJoining_24 : decode b_MM_finishJoining 24 = .ok (.aload_n 0, 1) := by decide +kernel
theorem d_MM_finishJoining_25 : decode b_MM_finishJoining 25 = .ok (.aload_n 1, 1) := by decide +kernel
theorem d_MM_finishJoining_26 : decode b_MM_finishJoining 26 = .ok (.invokevirtual 277, 3) := by decide +kernel
theorem d_MM_finishJoining_29 : decode b_MM_finishJoining 29 = .ok (.invokespecial 61, 3) := by decide +kernel
theorem d_MM_finishJoining_32 : decode b_MM_finishJoining 32 = .ok (.astore_n 3, 1) := by decide +kernel
theorem d_MM_finishJoining_33 : decode b_MM_finishJoining 33 = .ok (.aload_n 3, 1) := by decide +kernel
theorem d_MM_finishJoining_34 : decode b_MM_finishJoining 34 = .ok (.aload_n 0, 1) := by decide +kernel
theorem d_MM_finishJoining_35 : decode b_MM_finishJoining 35 = .ok (.getfield 64, 3) := by decide +kernel
theorem d_MM_finishJoining_38 : decode b_MM_finishJoining 38 = .ok (.invokevirtual 281, 3) := by decide +kernel
theorem d_MM_finishJoining_41 : decode b_MM_finishJoining 41 = .ok (.aload_n 0, 1) := by decide +kernel
theorem d_MM_finishJoining_42 : decode b_MM_finishJoining 42 = .ok (.getfield 31, 3) := by decide +kernel
theorem d_MM_finishJoining_45 : decode b_MM_finishJoining 45 = .ok (.iload_n 2, 1) := by decide +kernel
theorem d_MM_finishJoining_46 : decode b_MM_finishJoining 46 = .ok (.aload_n 3, 1) := by decide +kernel
theorem d_MM_finishJoining_47 : decode b_MM_finishJoining 47 = .ok (.aastore, 1) := by decide +kernel
theorem d_MM_finishJoining_48 : decode b_MM_finishJoining 48 = .ok (.aload_n 0, 1) := by decide +kernel
theorem d_MM_finishJoining_49 : decode b_MM_finishJoining 49 = .ok (.dup, 1) := by decide +kernel
theorem d_MM_finishJoining_50 : decode b_MM_finishJoining 50 = .ok (.getfield 35, 3) := by decide +kernel
theorem d_MM_finishJoining_53 : decode b_MM_finishJoining 53 = .ok (.iconst 1, 1) := by decide +kernel
theorem d_MM_finishJoining_54 : decode b_MM_finishJoining 54 = .ok (.iadd, 1) := by decide +kernel
theorem d_MM_finishJoining_55 : decode b_MM_finishJoining 55 = .ok (.putfield 35, 3) := by decide +kernel
theorem d_MM_finishJoining_58 : decode b_MM_finishJoining 58 = .ok (.aload_n 0, 1) := by decide +kernel
theorem d_MM_finishJoining_59 : decode b_MM_finishJoining 59 = .ok (.aload_n 3, 1) := by decide +kernel
theorem d_MM_finishJoining_60 : decode b_MM_finishJoining 60 = .ok (.putfield 64, 3) := by decide +kernel
theorem d_MM_finishJoining_63 : decode b_MM_finishJoining 63 = .ok (.aload_n 1, 1) := by decide +kernel
theorem d_MM_finishJoining_64 : decode b_MM_finishJoining 64 = .ok (.iconst 2, 1) := by decide +kernel
theorem d_MM_finishJoining_65 : decode b_MM_finishJoining 65 = .ok (.putfield 135, 3) := by decide +kernel
theorem d_MM_finishJoining_68 : decode b_MM_finishJoining 68 = .ok (.aload_n 1, 1) := by decide +kernel
theorem d_MM_finishJoining_69 : decode b_MM_finishJoining 69 = .ok (.iload_n 2, 1) := by decide +kernel
theorem d_MM_finishJoining_70 : decode b_MM_finishJoining 70 = .ok (.putfield 208, 3) := by decide +kernel
theorem d_MM_finishJoining_73 : decode b_MM_finishJoining 73 = .ok (.aload_n 0, 1) := by decide +kernel
theorem d_MM_finishJoining_74 : decode b_MM_finishJoining 74 = .ok (.aconst_null, 1) := by decide +kernel
theorem d_MM_finishJoining_75 : decode b_MM_finishJoining 75 = .ok (.putfield 54, 3) := by decide +kernel
theorem d_MM_finishJoining_78 : decode b_MM_finishJoining 78 = .ok (.return_, 1) := by decide +kernel
theorem d_MM_joinedState_0 : decode b_MM_joinedState 0 = .ok (.new 58, 3) := by decide +kernel
theorem d_MM_joinedState_3 : decode b_MM_joinedState 3 = .ok (.dup, 1) := by decide +kernel
theorem d_MM_joinedState_4 : decode b_MM_joinedState 4 = .ok (.invokespecial 60, 3) := by decide +kernel
theorem d_MM_joinedState_7 : decode b_MM_joinedState 7 = .ok (.astore_n 2, 1) := by decide +kernel
theorem d_MM_joinedState_8 : decode b_MM_joinedState 8 = .ok (.iconst 0, 1) := by decide +kernel
theorem d_MM_joinedState_9 : decode b_MM_joinedState 9 = .ok (.istore_n 3, 1) := by decide +kernel
theorem d_MM_joinedState_10 : decode b_MM_joinedState 10 = .ok (.iload_n 3, 1) := by decide +kernel
theorem d_MM_joinedState_11 : decode b_MM_joinedState 11 = .ok (.aload_n 0, 1) := by decide +kernel
theorem d_MM_joinedState_12 : decode b_MM_joinedState 12 = .ok (.getfield 16, 3) := by decide +kernel
theorem d_MM_joinedState_15 : decode b_MM_joinedState 15 = .ok (.if_icmp .ge 26, 3) := by decide +kernel
theorem d_MM_joinedState_18 : decode b_MM_joinedState 18 = .ok (.aload_n 0, 1) := by decide +kernel
theorem d_MM_joinedState_19 : decode b_MM_joinedState 19 = .ok (.aload_n 2, 1) := by decide +kernel
theorem d_MM_joinedState_20 : decode b_MM_joinedState 20 = .ok (.aload_n 1, 1) := by decide +kernel
theorem d_MM_joinedState_21 : decode b_MM_joinedState 21 = .ok (.getfield 194, 3) := by decide +kernel
theorem d_MM_joinedState_24 : decode b_MM_joinedState 24 = .ok (.getfield 147, 3) := by decide +kernel
theorem d_MM_joinedState_27 : decode b_MM_joinedState 27 = .ok (.aload_n 1, 1) := by decide +kernel
theorem d_MM_joinedState_28 : decode b_MM_joinedState 28 = .ok (.getfield 155, 3) := by decide +kernel
theorem d_MM_joinedState_31 : decode b_MM_joinedState 31 = .ok (.iload_n 3, 1) := by decide +kernel
theorem d_MM_joinedState_32 : decode b_MM_joinedState 32 = .ok (.invokevirtual 285, 3) := by decide +kernel
theorem d_MM_joinedState_35 : decode b_MM_joinedState 35 = .ok (.iinc 3 1, 3) := by decide +kernel
theorem d_MM_joinedState_38 : decode b_MM_joinedState 38 = .ok (.goto (-28), 3) := by decide +kernel
theorem d_MM_joinedState_41 : decode b_MM_joinedState 41 = .ok (.iconst 0, 1) := by decide +kernel
theorem d_MM_joinedState_42 : decode b_MM_joinedState 42 = .ok (.istore_n 3, 1) := by decide +kernel
theorem d_MM_joinedState_43 : decode b_MM_joinedState 43 = .ok (.iload_n 3, 1) := by decide +kernel
theorem d_MM_joinedState_44 : decode b_MM_joinedState 44 = .ok (.aload_n 0, 1) := by decide +kernel
theorem d_MM_joinedState_45 : decode b_MM_joinedState 45 = .ok (.getfield 50, 3) := by decide +kernel
theorem d_MM_joinedState_48 : decode b_MM_joinedState 48 = .ok (.getfield 129, 3) := by decide +kernel
theorem d_MM_joinedState_51 : decode b_MM_joinedState 51 = .ok (.if_icmp .ge 59, 3) := by decide +kernel
theorem d_MM_joinedState_54 : decode b_MM_joinedState 54 = .ok (.aload_n 0, 1) := by decide +kernel
theorem d_MM_joinedState_55 : decode b_MM_joinedState 55 = .ok (.getfield 50, 3) := by decide +kernel
theorem d_MM_joinedState_58 : decode b_MM_joinedState 58 = .ok (.iload_n 3, 1) := by decide +kernel
theorem d_MM_joinedState_59 : decode b_MM_joinedState 59 = .ok (.invokevirtual 156, 3) := by decide +kernel
theorem d_MM_joinedState_62 : decode b_MM_joinedState 62 = .ok (.iconst 1, 1) := by decide +kernel
theorem d_MM_joinedState_63 : decode b_MM_joinedState 63 = .ok (.if_icmp .ne 10, 3) := by decide +kernel
theorem d_MM_joinedState_66 : decode b_MM_joinedState 66 = .ok (.aload_n 1, 1) := by decide +kernel
theorem d_MM_joinedState_67 : decode b_MM_joinedState 67 = .ok (.getfield 155, 3) := by decide +kernel
theorem d_MM_joinedState_70 : decode b_MM_joinedState 70 = .ok (.goto 10, 3) := by decide +kernel
theorem d_MM_joinedState_73 : decode b_MM_joinedState 73 = .ok (.aload_n 0, 1) := by decide +kernel
theorem d_MM_joinedState_74 : decode b_MM_joinedState 74 = .ok (.getfield 64, 3) := by decide +kernel
theorem d_MM_joinedState_77 : decode b_MM_joinedState 77 = .ok (.getfield 147, 3) := by decide +kernel
theorem d_MM_joinedState_80 : decode b_MM_joinedState 80 = .ok (.astore 4, 2) := by decide +kernel
theorem d_MM_joinedState_82 : decode b_MM_joinedState 82 = .ok (.aload_n 2, 1) := by decide +kernel
theorem d_MM_joinedState_83 : decode b_MM_joinedState 83 = .ok (.aload 4, 2) := by decide +kernel
theorem d_MM_joinedState_85 : decode b_MM_joinedState 85 = .ok (.aload_n 0, 1) := by decide +kernel
theorem d_MM_joinedState_86 : decode b_MM_joinedState 86 = .ok (.getfield 50, 3) := by decide +kernel
theorem d_MM_joinedState_89 : decode b_MM_joinedState 89 = .ok (.iload_n 3, 1) := by decide +kernel
theorem d_MM_joinedState_90 : decode b_MM_joinedState 90 = .ok (.invokevirtual 141, 3) := by decide +kernel
theorem d_MM_joinedState_93 : decode b_MM_joinedState 93 = .ok (.aload_n 0, 1) := by decide +kernel
theorem d_MM_joinedState_94 : decode b_MM_joinedState 94 = .ok (.getfield 50, 3) := by decide +kernel
theorem d_MM_joinedState_97 : decode b_MM_joinedState 97 = .ok (.iload_n 3, 1) := by decide +kernel
theorem d_MM_joinedState_98 : decode b_MM_joinedState 98 = .ok (.invokevirtual 144, 3) := by decide +kernel
theorem d_MM_joinedState_101 : decode b_MM_joinedState 101 = .ok (.invokestatic 288, 3) := by decide +kernel
theorem d_MM_joinedState_104 : decode b_MM_joinedState 104 = .ok (.iinc 3 1, 3) := by decide +kernel
theorem d_MM_joinedState_107 : decode b_MM_joinedState 107 = .ok (.goto (-64), 3) := by decide +kernel
theorem d_MM_joinedState_110 : decode b_MM_joinedState 110 = .ok (.aload_n 2, 1) := by decide +kernel
theorem d_MM_joinedState_111 : decode b_MM_joinedState 111 = .ok (.areturn, 1) := by decide +kernel
theorem d_MM_joinThing_0 : decode b_MM_joinThing 0 = .ok (.aload_n 0, 1) := by decide +kernel
theorem d_MM_joinThing_1 : decode b_MM_joinThing 1 = .ok (.getfield 64, 3) := by decide +kernel
theorem d_MM_joinThing_4 : decode b_MM_joinThing 4 = .ok (.getfield 147, 3) := by decide +kernel
theorem d_MM_joinThing_7 : decode b_MM_joinThing 7 = .ok (.astore 5, 2) := by decide +kernel
theorem d_MM_joinThing_9 : decode b_MM_joinThing 9 = .ok (.aload 5, 2) := by decide +kernel
theorem d_MM_joinThing_11 : decode b_MM_joinThing 11 = .ok (.iload 4, 2) := by decide +kernel
theorem d_MM_joinThing_13 : decode b_MM_joinThing 13 = .ok (.invokevirtual 243, 3) := by decide +kernel
theorem d_MM_joinThing_16 : decode b_MM_joinThing 16 = .ok (.ifCond .eq 95, 3) := by decide +kernel
theorem d_MM_joinThing_19 : decode b_MM_joinThing 19 = .ok (.aload_n 3, 1) := by decide +kernel
theorem d_MM_joinThing_20 : decode b_MM_joinThing 20 = .ok (.iload 4, 2) := by decide +kernel
theorem d_MM_joinThing_22 : decode b_MM_joinThing 22 = .ok (.invokevirtual 243, 3) := by decide +kernel
theorem d_MM_joinThing_25 : decode b_MM_joinThing 25 = .ok (.ifCond .eq 86, 3) := by decide +kernel
theorem d_MM_joinThing_28 : decode b_MM_joinThing 28 = .ok (.aload_n 1, 1) := by decide +kernel
theorem d_MM_joinThing_29 : decode b_MM_joinThing 29 = .ok (.iload 4, 2) := by decide +kernel
theorem d_MM_joinThing_31 : decode b_MM_joinThing 31 = .ok (.iconst (-1), 1) := by decide +kernel
theorem d_MM_joinThing_32 : decode b_MM_joinThing 32 = .ok (.iconst 1, 1) := by decide +kernel
theorem d_MM_joinThing_33 : decode b_MM_joinThing 33 = .ok (.invokevirtual 292, 3) := by decide +kernel
theorem d_MM_joinThing_36 : decode b_MM_joinThing 36 = .ok (.iconst 0, 1) := by decide +kernel
theorem d_MM_joinThing_37 : decode b_MM_joinThing 37 = .ok (.istore 6, 2) := by decide +kernel
theorem d_MM_joinThing_39 : decode b_MM_joinThing 39 = .ok (.iload 6, 2) := by decide +kernel
theorem d_MM_joinThing_41 : decode b_MM_joinThing 41 = .ok (.iconst 5, 1) := by decide +kernel
theorem d_MM_joinThing_42 : decode b_MM_joinThing 42 = .ok (.if_icmp .ge 66, 3) := by decide +kernel
theorem d_MM_joinThing_45 : decode b_MM_joinThing 45 = .ok (.aload_n 3, 1) := by decide +kernel
theorem d_MM_joinThing_46 : decode b_MM_joinThing 46 = .ok (.iload 4, 2) := by decide +kernel
theorem d_MM_joinThing_48 : decode b_MM_joinThing 48 = .ok (.iload 6, 2) := by decide +kernel
theorem d_MM_joinThing_50 : decode b_MM_joinThing 50 = .ok (.invokevirtual 151, 3) := by decide +kernel
theorem d_MM_joinThing_53 : decode b_MM_joinThing 53 = .ok (.istore 7, 2) := by decide +kernel
theorem d_MM_joinThing_55 : decode b_MM_joinThing 55 = .ok (.iload 7, 2) := by decide +kernel
theorem d_MM_joinThing_57 : decode b_MM_joinThing 57 = .ok (.aload_n 2, 1) := by decide +kernel
theorem d_MM_joinThing_58 : decode b_MM_joinThing 58 = .ok (.iload 4, 2) := by decide +kernel
theorem d_MM_joinThing_60 : decode b_MM_joinThing 60 = .ok (.iload 6, 2) := by decide +kernel
theorem d_MM_joinThing_62 : decode b_MM_joinThing 62 = .ok (.invokevirtual 151, 3) := by decide +kernel
theorem d_MM_joinThing_65 : decode b_MM_joinThing 65 = .ok (.if_icmp .eq 7, 3) := by decide +kernel
theorem d_MM_joinThing_68 : decode b_MM_joinThing 68 = .ok (.iconst 1, 1) := by decide +kernel
theorem d_MM_joinThing_69 : decode b_MM_joinThing 69 = .ok (.goto 4, 3) := by decide +kernel
theorem d_MM_joinThing_72 : decode b_MM_joinThing 72 = .ok (.iconst 0, 1) := by decide +kernel
theorem d_MM_joinThing_73 : decode b_MM_joinThing 73 = .ok (.istore 8, 2) := by decide +kernel
theorem d_MM_joinThing_75 : decode b_MM_joinThing 75 = .ok (.aload_n 1, 1) := by decide +kernel
theorem d_MM_joinThing_76 : decode b_MM_joinThing 76 = .ok (.iload 4, 2) := by decide +kernel
theorem d_MM_joinThing_78 : decode b_MM_joinThing 78 = .ok (.iload 6, 2) := by decide +kernel
theorem d_MM_joinThing_80 : decode b_MM_joinThing 80 = .ok (.iload 8, 2) := by decide +kernel
theorem d_MM_joinThing_82 : decode b_MM_joinThing 82 = .ok (.ifCond .eq 8, 3) := by decide +kernel
theorem d_MM_joinThing_85 : decode b_MM_joinThing 85 = .ok (.iload 7, 2) := by decide +kernel
theorem d_MM_joinThing_87 : decode b_MM_joinThing 87 = .ok (.goto 12, 3) := by decide +kernel
theorem d_MM_joinThing_90 : decode b_MM_joinThing 90 = .ok (.aload 5, 2) := by decide +kernel
theorem d_MM_joinThing_92 : decode b_MM_joinThing 92 = .ok (.iload 4, 2) := by decide +kernel
theorem d_MM_joinThing_94 : decode b_MM_joinThing 94 = .ok (.iload 6, 2) := by decide +kernel
theorem d_MM_joinThing_96 : decode b_MM_joinThing 96 = .ok (.invokevirtual 151, 3) := by decide +kernel
theorem d_MM_joinThing_99 : decode b_MM_joinThing 99 = .ok (.invokevirtual 292, 3) := by decide +kernel
theorem d_MM_joinThing_102 : decode b_MM_joinThing 102 = .ok (.iinc 6 1, 3) := by decide +kernel
theorem d_MM_joinThing_105 : decode b_MM_joinThing 105 = .ok (.goto (-66), 3) := by decide +kernel
theorem d_MM_joinThing_108 : decode b_MM_joinThing 108 = .ok (.goto 30, 3) := by decide +kernel
theorem d_MM_joinThing_111 : decode b_MM_joinThing 111 = .ok (.aload_n 1, 1) := by decide +kernel
theorem d_MM_joinThing_112 : decode b_MM_joinThing 112 = .ok (.aload_n 3, 1) := by decide +kernel
theorem d_MM_joinThing_113 : decode b_MM_joinThing 113 = .ok (.iload 4, 2) := by decide +kernel
theorem d_MM_joinThing_115 : decode b_MM_joinThing 115 = .ok (.invokevirtual 243, 3) := by decide +kernel
theorem d_MM_joinThing_118 : decode b_MM_joinThing 118 = .ok (.aload_n 2, 1) := by decide +kernel
theorem d_MM_joinThing_119 : decode b_MM_joinThing 119 = .ok (.iload 4, 2) := by decide +kernel
theorem d_MM_joinThing_121 : decode b_MM_joinThing 121 = .ok (.invokevirtual 243, 3) := by decide +kernel
theorem d_MM_joinThing_124 : decode b_MM_joinThing 124 = .ok (.if_icmp .eq 7, 3) := by decide +kernel
theorem d_MM_joinThing_127 : decode b_MM_joinThing 127 = .ok (.aload_n 3, 1) := by decide +kernel
theorem d_MM_joinThing_128 : decode b_MM_joinThing 128 = .ok (.goto 5, 3) := by decide +kernel
theorem d_MM_joinThing_131 : decode b_MM_joinThing 131 = .ok (.aload 5, 2) := by decide +kernel
theorem d_MM_joinThing_133 : decode b_MM_joinThing 133 = .ok (.iload 4, 2) := by decide +kernel
theorem d_MM_joinThing_135 : decode b_MM_joinThing 135 = .ok (.invokevirtual 295, 3) := by decide +kernel
theorem d_MM_joinThing_138 : decode b_MM_joinThing 138 = .ok (.return_, 1) := by decide +kernel
theorem d_MM_applySettling_0 : decode b_MM_applySettling 0 = .ok (.iload_n 3, 1) := by decide +kernel
theorem d_MM_applySettling_1 : decode b_MM_applySettling 1 = .ok (.iconst (-1), 1) := by decide +kernel
theorem d_MM_applySettling_2 : decode b_MM_applySettling 2 = .ok (.if_icmp .ne 12, 3) := by decide +kernel
theorem d_MM_applySettling_5 : decode b_MM_applySettling 5 = .ok (.aload_n 0, 1) := by decide +kernel
theorem d_MM_applySettling_6 : decode b_MM_applySettling 6 = .ok (.aload_n 1, 1) := by decide +kernel
theorem d_MM_applySettling_7 : decode b_MM_applySettling 7 = .ok (.iload_n 2, 1) := by decide +kernel
theorem d_MM_applySettling_8 : decode b_MM_applySettling 8 = .ok (.invokevirtual 295, 3) := by decide +kernel
theorem d_MM_applySettling_11 : decode b_MM_applySettling 11 = .ok (.goto 15, 3) := by decide +kernel
theorem d_MM_applySettling_14 : decode b_MM_applySettling 14 = .ok (.aload_n 0, 1) := by decide +kernel
theorem d_MM_applySettling_15 : decode b_MM_applySettling 15 = .ok (.iload_n 2, 1) := by decide +kernel
theorem d_MM_applySettling_16 : decode b_MM_applySettling 16 = .ok (.iload_n 3, 1) := by decide +kernel
theorem d_MM_applySettling_17 : decode b_MM_applySettling 17 = .ok (.aload_n 1, 1) := by decide +kernel
theorem d_MM_applySettling_18 : decode b_MM_applySettling 18 = .ok (.iload_n 2, 1) := by decide +kernel
theorem d_MM_applySettling_19 : decode b_MM_applySettling 19 = .ok (.iload_n 3, 1) := by decide +kernel
theorem d_MM_applySettling_20 : decode b_MM_applySettling 20 = .ok (.invokevirtual 151, 3) := by decide +kernel
theorem d_MM_applySettling_23 : decode b_MM_applySettling 23 = .ok (.invokevirtual 292, 3) := by decide +kernel
theorem d_MM_applySettling_26 : decode b_MM_applySettling 26 = .ok (.return_, 1) := by decide +kernel
theorem d_Rf_init_0 : decode b_Rf_init 0 = .ok (.aload_n 0, 1) := by decide +kernel
theorem d_Rf_init_1 : decode b_Rf_init 1 = .ok (.invokespecial 1, 3) := by decide +kernel
theorem d_Rf_init_4 : decode b_Rf_init 4 = .ok (.aload_n 0, 1) := by decide +kernel
theorem d_Rf_init_5 : decode b_Rf_init 5 = .ok (.bipush 60, 2) := by decide +kernel
theorem d_Rf_init_7 : decode b_Rf_init 7 = .ok (.newarray .int, 2) := by decide +kernel
theorem d_Rf_init_9 : decode b_Rf_init 9 = .ok (.putfield 7, 3) := by decide +kernel
theorem d_Rf_init_12 : decode b_Rf_init 12 = .ok (.aload_n 0, 1) := by decide +kernel
theorem d_Rf_init_13 : decode b_Rf_init 13 = .ok (.bipush 60, 2) := by decide +kernel
theorem d_Rf_init_15 : decode b_Rf_init 15 = .ok (.newarray .int, 2) := by decide +kernel
theorem d_Rf_init_17 : decode b_Rf_init 17 = .ok (.putfield 13, 3) := by decide +kernel
theorem d_Rf_init_20 : decode b_Rf_init 20 = .ok (.aload_n 0, 1) := by decide +kernel
theorem d_Rf_init_21 : decode b_Rf_init 21 = .ok (.iconst 1, 1) := by decide +kernel
theorem d_Rf_init_22 : decode b_Rf_init 22 = .ok (.putfield 16, 3) := by decide +kernel
theorem d_Rf_init_25 : decode b_Rf_init 25 = .ok (.aload_n 0, 1) := by decide +kernel
theorem d_Rf_init_26 : decode b_Rf_init 26 = .ok (.sipush 2400, 3) := by decide +kernel
theorem d_Rf_init_29 : decode b_Rf_init 29 = .ok (.newarray .boolean, 2) := by decide +kernel
theorem d_Rf_init_31 : decode b_Rf_init 31 = .ok (.putfield 20, 3) := by decide +kernel
theorem d_Rf_init_34 : decode b_Rf_init 34 = .ok (.aload_n 0, 1) := by decide +kernel
theorem d_Rf_init_35 : decode b_Rf_init 35 = .ok (.sipush 12000, 3) := by decide +kernel
theorem d_Rf_init_38 : decode b_Rf_init 38 = .ok (.newarray .int, 2) := by decide +kernel
theorem d_Rf_init_40 : decode b_Rf_init 40 = .ok (.putfield 24, 3) := by decide +kernel
theorem d_Rf_init_43 : decode b_Rf_init 43 = .ok (.aload_n 0, 1) := by decide +kernel
theorem d_Rf_init_44 : decode b_Rf_init 44 = .ok (.sipush 12000, 3) := by decide +kernel
theorem d_Rf_init_47 : decode b_Rf_init 47 = .ok (.newarray .int, 2) := by decide +kernel
theorem d_Rf_init_49 : decode b_Rf_init 49 = .ok (.putfield 27, 3) := by decide +kernel
theorem d_Rf_init_52 : decode b_Rf_init 52 = .ok (.aload_n 0, 1) := by decide +kernel
theorem d_Rf_init_53 : decode b_Rf_init 53 = .ok (.bipush 40, 2) := by decide +kernel
theorem d_Rf_init_55 : decode b_Rf_init 55 = .ok (.newarray .int, 2) := by decide +kernel
theorem d_Rf_init_57 : decode b_Rf_init 57 = .ok (.putfield 30, 3) := by decide +kernel
theorem d_Rf_init_60 : decode b_Rf_init 60 = .ok (.aload_n 0, 1) := by decide +kernel
theorem d_Rf_init_61 : decode b_Rf_init 61 = .ok (.bipush 20, 2) := by decide +kernel
theorem d_Rf_init_63 : decode b_Rf_init 63 = .ok (.newarray .int, 2) := by decide +kernel
theorem d_Rf_init_65 : decode b_Rf_init 65 = .ok (.putfield 33, 3) := by decide +kernel
theorem d_Rf_init_68 : decode b_Rf_init 68 = .ok (.aload_n 0, 1) := by decide +kernel
theorem d_Rf_init_69 : decode b_Rf_init 69 = .ok (.bipush 20, 2) := by decide +kernel
theorem d_Rf_init_71 : decode b_Rf_init 71 = .ok (.newarray .int, 2) := by decide +kernel
theorem d_Rf_init_73 : decode b_Rf_init 73 = .ok (.putfield 36, 3) := by decide +kernel
theorem d_Rf_init_76 : decode b_Rf_init 76 = .ok (.aload_n 0, 1) := by decide +kernel
theorem d_Rf_init_77 : decode b_Rf_init 77 = .ok (.bipush 20, 2) := by decide +kernel
theorem d_Rf_init_79 : decode b_Rf_init 79 = .ok (.newarray .int, 2) := by decide +kernel
theorem d_Rf_init_81 : decode b_Rf_init 81 = .ok (.putfield 39, 3) := by decide +kernel
theorem d_Rf_init_84 : decode b_Rf_init 84 = .ok (.aload_n 0, 1) := by decide +kernel
theorem d_Rf_init_85 : decode b_Rf_init 85 = .ok (.bipush 20, 2) := by decide +kernel
theorem d_Rf_init_87 : decode b_Rf_init 87 = .ok (.newarray .int, 2) := by decide +kernel
theorem d_Rf_init_89 : decode b_Rf_init 89 = .ok (.putfield 42, 3) := by decide +kernel
theorem d_Rf_init_92 : decode b_Rf_init 92 = .ok (.aload_n 0, 1) := by decide +kernel
theorem d_Rf_init_93 : decode b_Rf_init 93 = .ok (.bipush 20, 2) := by decide +kernel
theorem d_Rf_init_95 : decode b_Rf_init 95 = .ok (.newarray .int, 2) := by decide +kernel
theorem d_Rf_init_97 : decode b_Rf_init 97 = .ok (.putfield 45, 3) := by decide +kernel
theorem d_Rf_init_100 : decode b_Rf_init 100 = .ok (.aload_n 0, 1) := by decide +kernel
theorem d_Rf_init_101 : decode b_Rf_init 101 = .ok (.bipush 20, 2) := by decide +kernel
theorem d_Rf_init_103 : decode b_Rf_init 103 = .ok (.newarray .int, 2) := by decide +kernel
theorem d_Rf_init_105 : decode b_Rf_init 105 = .ok (.putfield 48, 3) := by decide +kernel
theorem d_Rf_init_108 : decode b_Rf_init 108 = .ok (.aload_n 0, 1) := by decide +kernel
theorem d_Rf_init_109 : decode b_Rf_init 109 = .ok (.sipush 1200, 3) := by decide +kernel
theorem d_Rf_init_112 : decode b_Rf_init 112 = .ok (.newarray .int, 2) := by decide +kernel
theorem d_Rf_init_114 : decode b_Rf_init 114 = .ok (.putfield 51, 3) := by decide +kernel
theorem d_Rf_init_117 : decode b_Rf_init 117 = .ok (.aload_n 0, 1) := by decide +kernel
theorem d_Rf_init_118 : decode b_Rf_init 118 = .ok (.sipush 1200, 3) := by decide +kernel
theorem d_Rf_init_121 : decode b_Rf_init 121 = .ok (.newarray .int, 2) := by decide +kernel
theorem d_Rf_init_123 : decode b_Rf_init 123 = .ok (.putfield 54, 3) := by decide +kernel
theorem d_Rf_init_126 : decode b_Rf_init 126 = .ok (.aload_n 0, 1) := by decide +kernel
theorem d_Rf_init_127 : decode b_Rf_init 127 = .ok (.sipush 1200, 3) := by decide +kernel
theorem d_Rf_init_130 : decode b_Rf_init 130 = .ok (.newarray .int, 2) := by decide +kernel
theorem d_Rf_init_132 : decode b_Rf_init 132 = .ok (.putfield 57, 3) := by decide +kernel
theorem d_Rf_init_135 : decode b_Rf_init 135 = .ok (.aload_n 0, 1) := by decide +kernel
theorem d_Rf_init_136 : decode b_Rf_init 136 = .ok (.sipush 1200, 3) := by decide +kernel
theorem d_Rf_init_139 : decode b_Rf_init 139 = .ok (.newarray .int, 2) := by decide +kernel
theorem d_Rf_init_141 : decode b_Rf_init 141 = .ok (.putfield 60, 3) := by decide +kernel
theorem d_Rf_init_144 : decode b_Rf_init 144 = .ok (.aload_n 0, 1) := by decide +kernel
theorem d_Rf_init_145 : decode b_Rf_init 145 = .ok (.sipush 1200, 3) := by decide +kernel
theorem d_Rf_init_148 : decode b_Rf_init 148 = .ok (.newarray .int, 2) := by decide +kernel
theorem d_Rf_init_150 : decode b_Rf_init 150 = .ok (.putfield 63, 3) := by decide +kernel
theorem d_Rf_init_153 : decode b_Rf_init 153 = .ok (.aload_n 0, 1) := by decide +kernel
theorem d_Rf_init_154 : decode b_Rf_init 154 = .ok (.sipush 1200, 3) := by decide +kernel
theorem d_Rf_init_157 : decode b_Rf_init 157 = .ok (.newarray .int, 2) := by decide +kernel
theorem d_Rf_init_159 : decode b_Rf_init 159 = .ok (.putfield 66, 3) := by decide +kernel
theorem d_Rf_init_162 : decode b_Rf_init 162 = .ok (.aload_n 0, 1) := by decide +kernel
theorem d_Rf_init_163 : decode b_Rf_init 163 = .ok (.bipush 10, 2) := by decide +kernel
theorem d_Rf_init_165 : decode b_Rf_init 165 = .ok (.newarray .int, 2) := by decide +kernel
theorem d_Rf_init_167 : decode b_Rf_init 167 = .ok (.putfield 69, 3) := by decide +kernel
theorem d_Rf_init_170 : decode b_Rf_init 170 = .ok (.aload_n 0, 1) := by decide +kernel
theorem d_Rf_init_171 : decode b_Rf_init 171 = .ok (.bipush 10, 2) := by decide +kernel
theorem d_Rf_init_173 : decode b_Rf_init 173 = .ok (.newarray .int, 2) := by decide +kernel
theorem d_Rf_init_175 : decode b_Rf_init 175 = .ok (.putfield 72, 3) := by decide +kernel
theorem d_Rf_init_178 : decode b_Rf_init 178 = .ok (.aload_n 0, 1) := by decide +kernel
theorem d_Rf_init_179 : decode b_Rf_init 179 = .ok (.bipush 10, 2) := by decide +kernel
theorem d_Rf_init_181 : decode b_Rf_init 181 = .ok (.newarray .int, 2) := by decide +kernel
theorem d_Rf_init_183 : decode b_Rf_init 183 = .ok (.putfield 75, 3) := by decide +kernel
theorem d_Rf_init_186 : decode b_Rf_init 186 = .ok (.aload_n 0, 1) := by decide +kernel
theorem d_Rf_init_187 : decode b_Rf_init 187 = .ok (.iconst (-1), 1) := by decide +kernel
theorem d_Rf_init_188 : decode b_Rf_init 188 = .ok (.putfield 78, 3) := by decide +kernel
theorem d_Rf_init_191 : decode b_Rf_init 191 = .ok (.aload_n 0, 1) := by decide +kernel
theorem d_Rf_init_192 : decode b_Rf_init 192 = .ok (.sipush 300, 3) := by decide +kernel
theorem d_Rf_init_195 : decode b_Rf_init 195 = .ok (.newarray .int, 2) := by decide +kernel
theorem d_Rf_init_197 : decode b_Rf_init 197 = .ok (.putfield 81, 3) := by decide +kernel
theorem d_Rf_init_200 : decode b_Rf_init 200 = .ok (.aload_n 0, 1) := by decide +kernel
theorem d_Rf_init_201 : decode b_Rf_init 201 = .ok (.sipush 300, 3) := by decide +kernel
theorem d_Rf_init_204 : decode b_Rf_init 204 = .ok (.newarray .int, 2) := by decide +kernel
theorem d_Rf_init_206 : decode b_Rf_init 206 = .ok (.putfield 84, 3) := by decide +kernel
theorem d_Rf_init_209 : decode b_Rf_init 209 = .ok (.aload_n 0, 1) := by decide +kernel
theorem d_Rf_init_210 : decode b_Rf_init 210 = .ok (.sipush 300, 3) := by decide +kernel
theorem d_Rf_init_213 : decode b_Rf_init 213 = .ok (.newarray .int, 2) := by decide +kernel
theorem d_Rf_init_215 : decode b_Rf_init 215 = .ok (.putfield 87, 3) := by decide +kernel
theorem d_Rf_init_218 : decode b_Rf_init 218 = .ok (.return_, 1) := by decide +kernel
theorem d_Rf_thrown_0 : decode b_Rf_thrown 0 = .ok (.aload_n 0, 1) := by decide +kernel
theorem d_Rf_thrown_1 : decode b_Rf_thrown 1 = .ok (.getfield 90, 3) := by decide +kernel
theorem d_Rf_thrown_4 : decode b_Rf_thrown 4 = .ok (.ireturn, 1) := by decide +kernel
theorem d_Rf_goes_0 : decode b_Rf_goes 0 = .ok (.aload_n 0, 1) := by decide +kernel
theorem d_Rf_goes_1 : decode b_Rf_goes 1 = .ok (.iload_n 1, 1) := by decide +kernel
theorem d_Rf_goes_2 : decode b_Rf_goes 2 = .ok (.ifCond .ne 7, 3) := by decide +kernel
theorem d_Rf_goes_5 : decode b_Rf_goes 5 = .ok (.iconst 1, 1) := by decide +kernel
theorem d_Rf_goes_6 : decode b_Rf_goes 6 = .ok (.goto 12, 3) := by decide +kernel
theorem d_Rf_goes_9 : decode b_Rf_goes 9 = .ok (.iload_n 2, 1) := by decide +kernel
theorem d_Rf_goes_10 : decode b_Rf_goes 10 = .ok (.ifCond .ne 7, 3) := by decide +kernel
theorem d_Rf_goes_13 : decode b_Rf_goes 13 = .ok (.iconst 2, 1) := by decide +kernel
theorem d_Rf_goes_14 : decode b_Rf_goes 14 = .ok (.goto 4, 3) := by decide +kernel
theorem d_Rf_goes_17 : decode b_Rf_goes 17 = .ok (.iconst 0, 1) := by decide +kernel
theorem d_Rf_goes_18 : decode b_Rf_goes 18 = .ok (.putfield 90, 3) := by decide +kernel
theorem d_Rf_goes_21 : decode b_Rf_goes 21 = .ok (.aload_n 0, 1) := by decide +kernel
theorem d_Rf_goes_22 : decode b_Rf_goes 22 = .ok (.getfield 90, 3) := by decide +kernel
theorem d_Rf_goes_25 : decode b_Rf_goes 25 = .ok (.ifCond .ne 7, 3) := by decide +kernel
theorem d_Rf_goes_28 : decode b_Rf_goes 28 = .ok (.iconst 1, 1) := by decide +kernel
theorem d_Rf_goes_29 : decode b_Rf_goes 29 = .ok (.goto 4, 3) := by decide +kernel
theorem d_Rf_goes_32 : decode b_Rf_goes 32 = .ok (.iconst 0, 1) := by decide +kernel
theorem d_Rf_goes_33 : decode b_Rf_goes 33 = .ok (.ireturn, 1) := by decide +kernel
theorem d_Rf_isIn_0 : decode b_Rf_isIn 0 = .ok (.iload_n 0, 1) := by decide +kernel
theorem d_Rf_isIn_1 : decode b_Rf_isIn 1 = .ok (.ifCond .lt 12, 3) := by decide +kernel
theorem d_Rf_isIn_4 : decode b_Rf_isIn 4 = .ok (.iload_n 0, 1) := by decide +kernel
theorem d_Rf_isIn_5 : decode b_Rf_isIn 5 = .ok (.iload_n 1, 1) := by decide +kernel
theorem d_Rf_isIn_6 : decode b_Rf_isIn 6 = .ok (.if_icmp .ge 7, 3) := by decide +kernel
theorem d_Rf_isIn_9 : decode b_Rf_isIn 9 = .ok (.iconst 1, 1) := by decide +kernel
theorem d_Rf_isIn_10 : decode b_Rf_isIn 10 = .ok (.goto 4, 3) := by decide +kernel
theorem d_Rf_isIn_13 : decode b_Rf_isIn 13 = .ok (.iconst 0, 1) := by decide +kernel
theorem d_Rf_isIn_14 : decode b_Rf_isIn 14 = .ok (.ireturn, 1) := by decide +kernel
theorem d_Rf_isAt_0 : decode b_Rf_isAt 0 = .ok (.iload_n 2, 1) := by decide +kernel
theorem d_Rf_isAt_1 : decode b_Rf_isAt 1 = .ok (.istore 4, 2) := by decide +kernel
theorem d_Rf_isAt_3 : decode b_Rf_isAt 3 = .ok (.iload 4, 2) := by decide +kernel
theorem d_Rf_isAt_5 : decode b_Rf_isAt 5 = .ok (.ifCond .le 67, 3) := by decide +kernel
theorem d_Rf_isAt_8 : decode b_Rf_isAt 8 = .ok (.bipush 60, 2) := by decide +kernel
theorem d_Rf_isAt_10 : decode b_Rf_isAt 10 = .ok (.iload_n 1, 1) := by decide +kernel
theorem d_Rf_isAt_11 : decode b_Rf_isAt 11 = .ok (.imul, 1) := by decide +kernel
theorem d_Rf_isAt_12 : decode b_Rf_isAt 12 = .ok (.iload 4, 2) := by decide +kernel
theorem d_Rf_isAt_14 : decode b_Rf_isAt 14 = .ok (.iadd, 1) := by decide +kernel
theorem d_Rf_isAt_15 : decode b_Rf_isAt 15 = .ok (.istore 5, 2) := by decide +kernel
theorem d_Rf_isAt_17 : decode b_Rf_isAt 17 = .ok (.aload_n 0, 1) := by decide +kernel
theorem d_Rf_isAt_18 : decode b_Rf_isAt 18 = .ok (.getfield 60, 3) := by decide +kernel
theorem d_Rf_isAt_21 : decode b_Rf_isAt 21 = .ok (.iload 5, 2) := by decide +kernel
theorem d_Rf_isAt_23 : decode b_Rf_isAt 23 = .ok (.iaload, 1) := by decide +kernel
theorem d_Rf_isAt_24 : decode b_Rf_isAt 24 = .ok (.iload_n 3, 1) := by decide +kernel
theorem d_Rf_isAt_25 : decode b_Rf_isAt 25 = .ok (.if_icmp .ne 30, 3) := by decide +kernel
theorem d_Rf_isAt_28 : decode b_Rf_isAt 28 = .ok (.aload_n 0, 1) := by decide +kernel
theorem d_Rf_isAt_29 : decode b_Rf_isAt 29 = .ok (.getfield 57, 3) := by decide +kernel
theorem d_Rf_isAt_32 : decode b_Rf_isAt 32 = .ok (.iload 5, 2) := by decide +kernel
theorem d_Rf_isAt_34 : decode b_Rf_isAt 34 = .ok (.iaload, 1) := by decide +kernel
theorem d_Rf_isAt_35 : decode b_Rf_isAt 35 = .ok (.ifCond .le 20, 3) := by decide +kernel
theorem d_Rf_isAt_38 : decode b_Rf_isAt 38 = .ok (.aload_n 0, 1) := by decide +kernel
theorem d_Rf_isAt_39 : decode b_Rf_isAt 39 = .ok (.getfield 57, 3) := by decide +kernel
theorem d_Rf_isAt_42 : decode b_Rf_isAt 42 = .ok (.iload 5, 2) := by decide +kernel
theorem d_Rf_isAt_44 : decode b_Rf_isAt 44 = .ok (.iaload, 1) := by decide +kernel
theorem d_Rf_isAt_45 : decode b_Rf_isAt 45 = .ok (.iconst 1, 1) := by decide +kernel
theorem d_Rf_isAt_46 : decode b_Rf_isAt 46 = .ok (.if_icmp .ne 7, 3) := by decide +kernel
theorem d_Rf_isAt_49 : decode b_Rf_isAt 49 = .ok (.iconst 1, 1) := by decide +kernel
theorem d_Rf_isAt_50 : decode b_Rf_isAt 50 = .ok (.goto 4, 3) := by decide +kernel
theorem d_Rf_isAt_53 : decode b_Rf_isAt 53 = .ok (.iconst 0, 1) := by decide +kernel
theorem d_Rf_isAt_54 : decode b_Rf_isAt 54 = .ok (.ireturn, 1) := by decide +kernel
theorem d_Rf_isAt_55 : decode b_Rf_isAt 55 = .ok (.aload_n 0, 1) := by decide +kernel
theorem d_Rf_isAt_56 : decode b_Rf_isAt 56 = .ok (.getfield 51, 3) := by decide +kernel
theorem d_Rf_isAt_59 : decode b_Rf_isAt 59 = .ok (.bipush 60, 2) := by decide +kernel
theorem d_Rf_isAt_61 : decode b_Rf_isAt 61 = .ok (.iload_n 1, 1) := by decide +kernel
theorem d_Rf_isAt_62 : decode b_Rf_isAt 62 = .ok (.imul, 1) := by decide +kernel
theorem d_Rf_isAt_63 : decode b_Rf_isAt 63 = .ok (.iload 4, 2) := by decide +kernel
theorem d_Rf_isAt_65 : decode b_Rf_isAt 65 = .ok (.iadd, 1) := by decide +kernel
theorem d_Rf_isAt_66 : decode b_Rf_isAt 66 = .ok (.iaload, 1) := by decide +kernel
theorem d_Rf_isAt_67 : decode b_Rf_isAt 67 = .ok (.istore 4, 2) := by decide +kernel
theorem d_Rf_isAt_69 : decode b_Rf_isAt 69 = .ok (.goto (-66), 3) := by decide +kernel
theorem d_Rf_isAt_72 : decode b_Rf_isAt 72 = .ok (.aload_n 0, 1) := by decide +kernel
theorem d_Rf_isAt_73 : decode b_Rf_isAt 73 = .ok (.getfield 20, 3) := by decide +kernel
theorem d_Rf_isAt_76 : decode b_Rf_isAt 76 = .ok (.bipush 60, 2) := by decide +kernel
theorem d_Rf_isAt_78 : decode b_Rf_isAt 78 = .ok (.aload_n 0, 1) := by decide +kernel
theorem d_Rf_isAt_79 : decode b_Rf_isAt 79 = .ok (.getfield 36, 3) := by decide +kernel
theorem d_Rf_isAt_82 : decode b_Rf_isAt 82 = .ok (.iload_n 1, 1) := by decide +kernel
theorem d_Rf_isAt_83 : decode b_Rf_isAt 83 = .ok (.iaload, 1) := by decide +kernel
theorem d_Rf_isAt_84 : decode b_Rf_isAt 84 = .ok (.imul, 1) := by decide +kernel
theorem d_Rf_isAt_85 : decode b_Rf_isAt 85 = .ok (.iload_n 3, 1) := by decide +kernel
theorem d_Rf_isAt_86 : decode b_Rf_isAt 86 = .ok (.iadd, 1) := by decide +kernel
theorem d_Rf_isAt_87 : decode b_Rf_isAt 87 = .ok (.baload, 1) := by decide +kernel
theorem d_Rf_isAt_88 : decode b_Rf_isAt 88 = .ok (.ireturn, 1) := by decide +kernel
