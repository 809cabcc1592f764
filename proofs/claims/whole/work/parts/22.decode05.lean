theorem d_Cf_add_0 : decode b_Cf_add 0 = .ok (.aload_n 0, 1) := by decide +kernel
theorem d_Cf_add_1 : decode b_Cf_add 1 = .ok (.getfield 21, 3) := by decide +kernel
theorem d_Cf_add_4 : decode b_Cf_add 4 = .ok (.sipush 300, 3) := by decide +kernel
theorem d_Cf_add_7 : decode b_Cf_add 7 = .ok (.if_icmp .ge 43, 3) := by decide +kernel
theorem d_Cf_add_10 : decode b_Cf_add 10 = .ok (.aload_n 0, 1) := by decide +kernel
theorem d_Cf_add_11 : decode b_Cf_add 11 = .ok (.getfield 11, 3) := by decide +kernel
theorem d_Cf_add_14 : decode b_Cf_add 14 = .ok (.aload_n 0, 1) := by decide +kernel
theorem d_Cf_add_15 : decode b_Cf_add 15 = .ok (.getfield 21, 3) := by decide +kernel
theorem d_Cf_add_18 : decode b_Cf_add 18 = .ok (.iload_n 1, 1) := by decide +kernel
theorem d_Cf_add_19 : decode b_Cf_add 19 = .ok (.iastore, 1) := by decide +kernel
theorem d_Cf_add_20 : decode b_Cf_add 20 = .ok (.aload_n 0, 1) := by decide +kernel
theorem d_Cf_add_21 : decode b_Cf_add 21 = .ok (.getfield 15, 3) := by decide +kernel
theorem d_Cf_add_24 : decode b_Cf_add 24 = .ok (.aload_n 0, 1) := by decide +kernel
theorem d_Cf_add_25 : decode b_Cf_add 25 = .ok (.getfield 21, 3) := by decide +kernel
theorem d_Cf_add_28 : decode b_Cf_add 28 = .ok (.iload_n 2, 1) := by decide +kernel
theorem d_Cf_add_29 : decode b_Cf_add 29 = .ok (.iastore, 1) := by decide +kernel
theorem d_Cf_add_30 : decode b_Cf_add 30 = .ok (.aload_n 0, 1) := by decide +kernel
theorem d_Cf_add_31 : decode b_Cf_add 31 = .ok (.getfield 18, 3) := by decide +kernel
theorem d_Cf_add_34 : decode b_Cf_add 34 = .ok (.aload_n 0, 1) := by decide +kernel
theorem d_Cf_add_35 : decode b_Cf_add 35 = .ok (.getfield 21, 3) := by decide +kernel
theorem d_Cf_add_38 : decode b_Cf_add 38 = .ok (.iconst (-1), 1) := by decide +kernel
theorem d_Cf_add_39 : decode b_Cf_add 39 = .ok (.iastore, 1) := by decide +kernel
theorem d_Cf_add_40 : decode b_Cf_add 40 = .ok (.aload_n 0, 1) := by decide +kernel
theorem d_Cf_add_41 : decode b_Cf_add 41 = .ok (.dup, 1) := by decide +kernel
theorem d_Cf_add_42 : decode b_Cf_add 42 = .ok (.getfield 21, 3) := by decide +kernel
theorem d_Cf_add_45 : decode b_Cf_add 45 = .ok (.iconst 1, 1) := by decide +kernel
theorem d_Cf_add_46 : decode b_Cf_add 46 = .ok (.iadd, 1) := by decide +kernel
theorem d_Cf_add_47 : decode b_Cf_add 47 = .ok (.putfield 21, 3) := by decide +kernel
theorem d_Cf_add_50 : decode b_Cf_add 50 = .ok (.return_, 1) := by decide +kernel
theorem d_Cf_choose_0 : decode b_Cf_choose 0 = .ok (.aload_n 0, 1) := by decide +kernel
theorem d_Cf_choose_1 : decode b_Cf_choose 1 = .ok (.iload_n 1, 1) := by decide +kernel
theorem d_Cf_choose_2 : decode b_Cf_choose 2 = .ok (.invokevirtual 25, 3) := by decide +kernel
theorem d_Cf_choose_5 : decode b_Cf_choose 5 = .ok (.ifCond .eq 10, 3) := by decide +kernel
theorem d_Cf_choose_8 : decode b_Cf_choose 8 = .ok (.aload_n 0, 1) := by decide +kernel
theorem d_Cf_choose_9 : decode b_Cf_choose 9 = .ok (.getfield 18, 3) := by decide +kernel
theorem d_Cf_choose_12 : decode b_Cf_choose 12 = .ok (.iload_n 1, 1) := by decide +kernel
theorem d_Cf_choose_13 : decode b_Cf_choose 13 = .ok (.iload_n 2, 1) := by decide +kernel
theorem d_Cf_choose_14 : decode b_Cf_choose 14 = .ok (.iastore, 1) := by decide +kernel
theorem d_Cf_choose_15 : decode b_Cf_choose 15 = .ok (.return_, 1) := by decide +kernel
theorem d_Cf_thingOf_0 : decode b_Cf_thingOf 0 = .ok (.aload_n 0, 1) := by decide +kernel
theorem d_Cf_thingOf_1 : decode b_Cf_thingOf 1 = .ok (.iload_n 1, 1) := by decide +kernel
theorem d_Cf_thingOf_2 : decode b_Cf_thingOf 2 = .ok (.invokevirtual 25, 3) := by decide +kernel
theorem d_Cf_thingOf_5 : decode b_Cf_thingOf 5 = .ok (.ifCond .eq 12, 3) := by decide +kernel
theorem d_Cf_thingOf_8 : decode b_Cf_thingOf 8 = .ok (.aload_n 0, 1) := by decide +kernel
theorem d_Cf_thingOf_9 : decode b_Cf_thingOf 9 = .ok (.getfield 11, 3) := by decide +kernel
theorem d_Cf_thingOf_12 : decode b_Cf_thingOf 12 = .ok (.iload_n 1, 1) := by decide +kernel
theorem d_Cf_thingOf_13 : decode b_Cf_thingOf 13 = .ok (.iaload, 1) := by decide +kernel
theorem d_Cf_thingOf_14 : decode b_Cf_thingOf 14 = .ok (.goto 4, 3) := by decide +kernel
theorem d_Cf_thingOf_17 : decode b_Cf_thingOf 17 = .ok (.iconst (-1), 1) := by decide +kernel
theorem d_Cf_thingOf_18 : decode b_Cf_thingOf 18 = .ok (.ireturn, 1) := by decide +kernel
theorem d_Cf_fieldOf_0 : decode b_Cf_fieldOf 0 = .ok (.aload_n 0, 1) := by decide +kernel
theorem d_Cf_fieldOf_1 : decode b_Cf_fieldOf 1 = .ok (.iload_n 1, 1) := by decide +kernel
theorem d_Cf_fieldOf_2 : decode b_Cf_fieldOf 2 = .ok (.invokevirtual 25, 3) := by decide +kernel
theorem d_Cf_fieldOf_5 : decode b_Cf_fieldOf 5 = .ok (.ifCond .eq 12, 3) := by decide +kernel
theorem d_Cf_fieldOf_8 : decode b_Cf_fieldOf 8 = .ok (.aload_n 0, 1) := by decide +kernel
theorem d_Cf_fieldOf_9 : decode b_Cf_fieldOf 9 = .ok (.getfield 15, 3) := by decide +kernel
theorem d_Cf_fieldOf_12 : decode b_Cf_fieldOf 12 = .ok (.iload_n 1, 1) := by decide +kernel
theorem d_Cf_fieldOf_13 : decode b_Cf_fieldOf 13 = .ok (.iaload, 1) := by decide +kernel
theorem d_Cf_fieldOf_14 : decode b_Cf_fieldOf 14 = .ok (.goto 4, 3) := by decide +kernel
theorem d_Cf_fieldOf_17 : decode b_Cf_fieldOf 17 = .ok (.iconst (-1), 1) := by decide +kernel
theorem d_Cf_fieldOf_18 : decode b_Cf_fieldOf 18 = .ok (.ireturn, 1) := by decide +kernel
theorem d_Cf_sideOf_0 : decode b_Cf_sideOf 0 = .ok (.aload_n 0, 1) := by decide +kernel
theorem d_Cf_sideOf_1 : decode b_Cf_sideOf 1 = .ok (.iload_n 1, 1) := by decide +kernel
theorem d_Cf_sideOf_2 : decode b_Cf_sideOf 2 = .ok (.invokevirtual 25, 3) := by decide +kernel
theorem d_Cf_sideOf_5 : decode b_Cf_sideOf 5 = .ok (.ifCond .eq 12, 3) := by decide +kernel
theorem d_Cf_sideOf_8 : decode b_Cf_sideOf 8 = .ok (.aload_n 0, 1) := by decide +kernel
theorem d_Cf_sideOf_9 : decode b_Cf_sideOf 9 = .ok (.getfield 18, 3) := by decide +kernel
theorem d_Cf_sideOf_12 : decode b_Cf_sideOf 12 = .ok (.iload_n 1, 1) := by decide +kernel
theorem d_Cf_sideOf_13 : decode b_Cf_sideOf 13 = .ok (.iaload, 1) := by decide +kernel
theorem d_Cf_sideOf_14 : decode b_Cf_sideOf 14 = .ok (.goto 4, 3) := by decide +kernel
theorem d_Cf_sideOf_17 : decode b_Cf_sideOf 17 = .ok (.iconst (-1), 1) := by decide +kernel
theorem d_Cf_sideOf_18 : decode b_Cf_sideOf 18 = .ok (.ireturn, 1) := by decide +kernel
theorem d_Cf_countUnsettled_0 : decode b_Cf_countUnsettled 0 = .ok (.iconst 0, 1) := by decide +kernel
theorem d_Cf_countUnsettled_1 : decode b_Cf_countUnsettled 1 = .ok (.istore_n 1, 1) := by decide +kernel
theorem d_Cf_countUnsettled_2 : decode b_Cf_countUnsettled 2 = .ok (.iconst 0, 1) := by decide +kernel
theorem d_Cf_countUnsettled_3 : decode b_Cf_countUnsettled 3 = .ok (.istore_n 2, 1) := by decide +kernel
theorem d_Cf_countUnsettled_4 : decode b_Cf_countUnsettled 4 = .ok (.iload_n 2, 1) := by decide +kernel
theorem d_Cf_countUnsettled_5 : decode b_Cf_countUnsettled 5 = .ok (.aload_n 0, 1) := by decide +kernel
theorem d_Cf_countUnsettled_6 : decode b_Cf_countUnsettled 6 = .ok (.getfield 21, 3) := by decide +kernel
theorem d_Cf_countUnsettled_9 : decode b_Cf_countUnsettled 9 = .ok (.if_icmp .ge 21, 3) := by decide +kernel
theorem d_Cf_countUnsettled_12 : decode b_Cf_countUnsettled 12 = .ok (.aload_n 0, 1) := by decide +kernel
theorem d_Cf_countUnsettled_13 : decode b_Cf_countUnsettled 13 = .ok (.iload_n 2, 1) := by decide +kernel
theorem d_Cf_countUnsettled_14 : decode b_Cf_countUnsettled 14 = .ok (.invokevirtual 29, 3) := by decide +kernel
theorem d_Cf_countUnsettled_17 : decode b_Cf_countUnsettled 17 = .ok (.iconst (-1), 1) := by decide +kernel
theorem d_Cf_countUnsettled_18 : decode b_Cf_countUnsettled 18 = .ok (.if_icmp .ne 6, 3) := by decide +kernel
theorem d_Cf_countUnsettled_21 : decode b_Cf_countUnsettled 21 = .ok (.iinc 1 1, 3) := by decide +kernel
theorem d_Cf_countUnsettled_24 : decode b_Cf_countUnsettled 24 = .ok (.iinc 2 1, 3) := by decide +kernel
theorem d_Cf_countUnsettled_27 : decode b_Cf_countUnsettled 27 = .ok (.goto (-23), 3) := by decide +kernel
theorem d_Cf_countUnsettled_30 : decode b_Cf_countUnsettled 30 = .ok (.iload_n 1, 1) := by decide +kernel
theorem d_Cf_countUnsettled_31 : decode b_Cf_countUnsettled 31 = .ok (.ireturn, 1) := by decide +kernel
theorem d_Cf_isKnown_0 : decode b_Cf_isKnown 0 = .ok (.iload_n 1, 1) := by decide +kernel
theorem d_Cf_isKnown_1 : decode b_Cf_isKnown 1 = .ok (.ifCond .lt 22, 3) := by decide +kernel
theorem d_Cf_isKnown_4 : decode b_Cf_isKnown 4 = .ok (.iload_n 1, 1) := by decide +kernel
theorem d_Cf_isKnown_5 : decode b_Cf_isKnown 5 = .ok (.aload_n 0, 1) := by decide +kernel
theorem d_Cf_isKnown_6 : decode b_Cf_isKnown 6 = .ok (.getfield 21, 3) := by decide +kernel
theorem d_Cf_isKnown_9 : decode b_Cf_isKnown 9 = .ok (.if_icmp .ge 14, 3) := by decide +kernel
theorem d_Cf_isKnown_12 : decode b_Cf_isKnown 12 = .ok (.iload_n 1, 1) := by decide +kernel
theorem d_Cf_isKnown_13 : decode b_Cf_isKnown 13 = .ok (.sipush 300, 3) := by decide +kernel
theorem d_Cf_isKnown_16 : decode b_Cf_isKnown 16 = .ok (.if_icmp .ge 7, 3) := by decide +kernel
theorem d_Cf_isKnown_19 : decode b_Cf_isKnown 19 = .ok (.iconst 1, 1) := by decide +kernel
theorem d_Cf_isKnown_20 : decode b_Cf_isKnown 20 = .ok (.goto 4, 3) := by decide +kernel
theorem d_Cf_isKnown_23 : decode b_Cf_isKnown 23 = .ok (.iconst 0, 1) := by decide +kernel
theorem d_Cf_isKnown_24 : decode b_Cf_isKnown 24 = .ok (.ireturn, 1) := by decide +kernel
theorem d_Mo_init_0 : decode b_Mo_init 0 = .ok (.aload_n 0, 1) := by decide +kernel
theorem d_Mo_init_1 : decode b_Mo_init 1 = .ok (.invokespecial 1, 3) := by decide +kernel
theorem d_Mo_init_4 : decode b_Mo_init 4 = .ok (.aload_n 0, 1) := by decide +kernel
theorem d_Mo_init_5 : decode b_Mo_init 5 = .ok (.aconst_null, 1) := by decide +kernel
theorem d_Mo_init_6 : decode b_Mo_init 6 = .ok (.putfield 7, 3) := by decide +kernel
theorem d_Mo_init_9 : decode b_Mo_init 9 = .ok (.aload_n 0, 1) := by decide +kernel
theorem d_Mo_init_10 : decode b_Mo_init 10 = .ok (.iload_n 1, 1) := by decide +kernel
theorem d_Mo_init_11 : decode b_Mo_init 11 = .ok (.putfield 13, 3) := by decide +kernel
theorem d_Mo_init_14 : decode b_Mo_init 14 = .ok (.aload_n 0, 1) := by decide +kernel
theorem d_Mo_init_15 : decode b_Mo_init 15 = .ok (.aload_n 2, 1) := by decide +kernel
theorem d_Mo_init_16 : decode b_Mo_init 16 = .ok (.putfield 17, 3) := by decide +kernel
theorem d_Mo_init_19 : decode b_Mo_init 19 = .ok (.aload_n 0, 1) := by decide +kernel
theorem d_Mo_init_20 : decode b_Mo_init 20 = .ok (.iload_n 3, 1) := by decide +kernel
theorem d_Mo_init_21 : decode b_Mo_init 21 = .ok (.putfield 20, 3) := by decide +kernel
theorem d_Mo_init_24 : decode b_Mo_init 24 = .ok (.aload_n 0, 1) := by decide +kernel
theorem d_Mo_init_25 : decode b_Mo_init 25 = .ok (.iload 4, 2) := by decide +kernel
theorem d_Mo_init_27 : decode b_Mo_init 27 = .ok (.putfield 23, 3) := by decide +kernel
theorem d_Mo_init_30 : decode b_Mo_init 30 = .ok (.aload_n 0, 1) := by decide +kernel
theorem d_Mo_init_31 : decode b_Mo_init 31 = .ok (.iload 5, 2) := by decide +kernel
theorem d_Mo_init_33 : decode b_Mo_init 33 = .ok (.putfield 26, 3) := by decide +kernel
theorem d_Mo_init_36 : decode b_Mo_init 36 = .ok (.aload_n 0, 1) := by decide +kernel
theorem d_Mo_init_37 : decode b_Mo_init 37 = .ok (.iload 6, 2) := by decide +kernel
theorem d_Mo_init_39 : decode b_Mo_init 39 = .ok (.putfield 29, 3) := by decide +kernel
theorem d_Mo_init_42 : decode b_Mo_init 42 = .ok (.return_, 1) := by decide +kernel
theorem d_Ru_init_0 : decode b_Ru_init 0 = .ok (.aload_n 0, 1) := by decide +kernel
theorem d_Ru_init_1 : decode b_Ru_init 1 = .ok (.invokespecial 1, 3) := by decide +kernel
theorem d_Ru_init_4 : decode b_Ru_init 4 = .ok (.aload_n 0, 1) := by decide +kernel
theorem d_Ru_init_5 : decode b_Ru_init 5 = .ok (.iload_n 1, 1) := by decide +kernel
theorem d_Ru_init_6 : decode b_Ru_init 6 = .ok (.putfield 7, 3) := by decide +kernel
theorem d_Ru_init_9 : decode b_Ru_init 9 = .ok (.aload_n 0, 1) := by decide +kernel
theorem d_Ru_init_10 : decode b_Ru_init 10 = .ok (.iload_n 2, 1) := by decide +kernel
theorem d_Ru_init_11 : decode b_Ru_init 11 = .ok (.putfield 13, 3) := by decide +kernel
theorem d_Ru_init_14 : decode b_Ru_init 14 = .ok (.aload_n 0, 1) := by decide +kernel
theorem d_Ru_init_15 : decode b_Ru_init 15 = .ok (.iload_n 3, 1) := by decide +kernel
theorem d_Ru_init_16 : decode b_Ru_init 16 = .ok (.putfield 16, 3) := by decide +kernel
theorem d_Ru_init_19 : decode b_Ru_init 19 = .ok (.return_, 1) := by decide +kernel
theorem d_Se_init_0 : decode b_Se_init 0 = .ok (.aload_n 0, 1) := by decide +kernel
theorem d_Se_init_1 : decode b_Se_init 1 = .ok (.invokespecial 3, 3) := by decide +kernel
theorem d_Se_init_4 : decode b_Se_init 4 = .ok (.aload_n 0, 1) := by decide +kernel
theorem d_Se_init_5 : decode b_Se_init 5 = .ok (.new 9, 3) := by decide +kernel
theorem d_Se_init_8 : decode b_Se_init 8 = .ok (.dup, 1) := by decide +kernel
theorem d_Se_init_9 : decode b_Se_init 9 = .ok (.invokespecial 11, 3) := by decide +kernel
theorem d_Se_init_12 : decode b_Se_init 12 = .ok (.putfield 12, 3) := by decide +kernel
theorem d_Se_init_15 : decode b_Se_init 15 = .ok (.aload_n 0, 1) := by decide +kernel
theorem d_Se_init_16 : decode b_Se_init 16 = .ok (.new 18, 3) := by decide +kernel
theorem d_Se_init_19 : decode b_Se_init 19 = .ok (.dup, 1) := by decide +kernel
theorem d_Se_init_20 : decode b_Se_init 20 = .ok (.iconst 0, 1) := by decide +kernel
theorem d_Se_init_21 : decode b_Se_init 21 = .ok (.aconst_null, 1) := by decide +kernel
theorem d_Se_init_22 : decode b_Se_init 22 = .ok (.iconst (-1), 1) := by decide +kernel
theorem d_Se_init_23 : decode b_Se_init 23 = .ok (.iconst (-1), 1) := by decide +kernel
theorem d_Se_init_24 : decode b_Se_init 24 = .ok (.iconst 0, 1) := by decide +kernel
theorem d_Se_init_25 : decode b_Se_init 25 = .ok (.iconst 0, 1) := by decide +kernel
theorem d_Se_init_26 : decode b_Se_init 26 = .ok (.invokespecial 20, 3) := by decide +kernel
theorem d_Se_init_29 : decode b_Se_init 29 = .ok (.putfield 23, 3) := by decide +kernel
theorem d_Se_init_32 : decode b_Se_init 32 = .ok (.aload_n 0, 1) := by decide +kernel
theorem d_Se_init_33 : decode b_Se_init 33 = .ok (.iconst 1, 1) := by decide +kernel
theorem d_Se_init_34 : decode b_Se_init 34 = .ok (.putfield 27, 3) := by decide +kernel
theorem d_Se_init_37 : decode b_Se_init 37 = .ok (.aload_n 0, 1) := by decide +kernel
theorem d_Se_init_38 : decode b_Se_init 38 = .ok (.iconst 0, 1) := by decide +kernel
theorem d_Se_init_39 : decode b_Se_init 39 = .ok (.putfield 31, 3) := by decide +kernel
theorem d_Se_init_42 : decode b_Se_init 42 = .ok (.aload_n 0, 1) := by decide +kernel
theorem d_Se_init_43 : decode b_Se_init 43 = .ok (.iconst (-1), 1) := by decide +kernel
theorem d_Se_init_44 : decode b_Se_init 44 = .ok (.putfield 34, 3) := by decide +kernel
theorem d_Se_init_47 : decode b_Se_init 47 = .ok (.aload_n 0, 1) := by decide +kernel
theorem d_Se_init_48 : decode b_Se_init 48 = .ok (.iload_n 1, 1) := by decide +kernel
theorem d_Se_init_49 : decode b_Se_init 49 = .ok (.putfield 37, 3) := by decide +kernel
theorem d_Se_init_52 : decode b_Se_init 52 = .ok (.aload_n 0, 1) := by decide +kernel
theorem d_Se_init_53 : decode b_Se_init 53 = .ok (.iload_n 2, 1) := by decide +kernel
theorem d_Se_init_54 : decode b_Se_init 54 = .ok (.putfield 40, 3) := by decide +kernel
theorem d_Se_init_57 : decode b_Se_init 57 = .ok (.aload_n 0, 1) := by decide +kernel
theorem d_Se_init_58 : decode b_Se_init 58 = .ok (.aload_n 3, 1) := by decide +kernel
theorem d_Se_init_59 : decode b_Se_init 59 = .ok (.putfield 43, 3) := by decide +kernel
theorem d_Se_init_62 : decode b_Se_init 62 = .ok (.aload_n 0, 1) := by decide +kernel
theorem d_Se_init_63 : decode b_Se_init 63 = .ok (.getfield 12, 3) := by decide +kernel
theorem d_Se_init_66 : decode b_Se_init 66 = .ok (.aload_n 3, 1) := by decide +kernel
theorem d_Se_init_67 : decode b_Se_init 67 = .ok (.getfield 47, 3) := by decide +kernel
theorem d_Se_init_70 : decode b_Se_init 70 = .ok (.invokevirtual 50, 3) := by decide +kernel
theorem d_Se_init_73 : decode b_Se_init 73 = .ok (.return_, 1) := by decide +kernel
theorem d_Se_isFull_0 : decode b_Se_isFull 0 = .ok (.aload_n 0, 1) := by decide +kernel
theorem d_Se_isFull_1 : decode b_Se_isFull 1 = .ok (.getfield 27, 3) := by decide +kernel
theorem d_Se_isFull_4 : decode b_Se_isFull 4 = .ok (.bipush 60, 2) := by decide +kernel
theorem d_Se_isFull_6 : decode b_Se_isFull 6 = .ok (.if_icmp .lt 7, 3) := by decide +kernel
theorem d_Se_isFull_9 : decode b_Se_isFull 9 = .ok (.iconst 1, 1) := by decide +kernel
theorem d_Se_isFull_10 : decode b_Se_isFull 10 = .ok (.goto 4, 3) := by decide +kernel
theorem d_Se_isFull_13 : decode b_Se_isFull 13 = .ok (.iconst 0, 1) := by decide +kernel
theorem d_Se_isFull_14 : decode b_Se_isFull 14 = .ok (.ireturn, 1) := by decide +kernel
theorem d_Se_change_0 : decode b_Se_change 0 = .ok (.aload_n 0, 1) := by decide +kernel
theorem d_Se_change_1 : decode b_Se_change 1 = .ok (.getfield 12, 3) := by decide +kernel
theorem d_Se_change_4 : decode b_Se_change 4 = .ok (.iload_n 1, 1) := by decide +kernel
theorem d_Se_change_5 : decode b_Se_change 5 = .ok (.iload_n 2, 1) := by decide +kernel
theorem d_Se_change_6 : decode b_Se_change 6 = .ok (.invokevirtual 54, 3) := by decide +kernel
theorem d_Se_change_9 : decode b_Se_change 9 = .ok (.istore 4, 2) := by decide +kernel
theorem d_Se_change_11 : decode b_Se_change 11 = .ok (.new 18, 3) := by decide +kernel
theorem d_Se_change_14 : decode b_Se_change 14 = .ok (.dup, 1) := by decide +kernel
theorem d_Se_change_15 : decode b_Se_change 15 = .ok (.aload_n 0, 1) := by decide +kernel
theorem d_Se_change_16 : decode b_Se_change 16 = .ok (.getfield 27, 3) := by decide +kernel
theorem d_Se_change_19 : decode b_Se_change 19 = .ok (.aload_n 0, 1) := by decide +kernel
theorem d_Se_change_20 : decode b_Se_change 20 = .ok (.getfield 23, 3) := by decide +kernel
theorem d_Se_change_23 : decode b_Se_change 23 = .ok (.iload_n 1, 1) := by decide +kernel
theorem d_Se_change_24 : decode b_Se_change 24 = .ok (.iload_n 2, 1) := by decide +kernel
theorem d_Se_change_25 : decode b_Se_change 25 = .ok (.iload 4, 2) := by decide +kernel
theorem d_Se_change_27 : decode b_Se_change 27 = .ok (.iload_n 3, 1) := by decide +kernel
theorem d_Se_change_28 : decode b_Se_change 28 = .ok (.invokespecial 20, 3) := by decide +kernel
theorem d_Se_change_31 : decode b_Se_change 31 = .ok (.astore 5, 2) := by decide +kernel
theorem d_Se_change_33 : decode b_Se_change 33 = .ok (.aload_n 0, 1) := by decide +kernel
theorem d_Se_change_34 : decode b_Se_change 34 = .ok (.getfield 23, 3) := by decide +kernel
theorem d_Se_change_37 : decode b_Se_change 37 = .ok (.aload 5, 2) := by decide +kernel
theorem d_Se_change_39 : decode b_Se_change 39 = .ok (.putfield 58, 3) := by decide +kernel
theorem d_Se_change_42 : decode b_Se_change 42 = .ok (.aload_n 0, 1) := by decide +kernel
theorem d_Se_change_43 : decode b_Se_change 43 = .ok (.dup, 1) := by decide +kernel
theorem d_Se_change_44 : decode b_Se_change 44 = .ok (.getfield 27, 3) := by decide +kernel
theorem d_Se_change_47 : decode b_Se_change 47 = .ok (.iconst 1, 1) := by decide +kernel
theorem d_Se_change_48 : decode b_Se_change 48 = .ok (.iadd, 1) := by decide +kernel
theorem d_Se_change_49 : decode b_Se_change 49 = .ok (.putfield 27, 3) := by decide +kernel
theorem d_Se_change_52 : decode b_Se_change 52 = .ok (.aload_n 0, 1) := by decide +kernel
theorem d_Se_change_53 : decode b_Se_change 53 = .ok (.invokevirtual 61, 3) := by decide +kernel
theorem d_Se_change_56 : decode b_Se_change 56 = .ok (.ireturn, 1) := by decide +kernel
theorem d_Se_stepForward_0 : decode b_Se_stepForward 0 = .ok (.aload_n 0, 1) := by decide +kernel
theorem d_Se_stepForward_1 : decode b_Se_stepForward 1 = .ok (.getfield 23, 3) := by decide +kernel
theorem d_Se_stepForward_4 : decode b_Se_stepForward 4 = .ok (.getfield 58, 3) := by decide +kernel
theorem d_Se_stepForward_7 : decode b_Se_stepForward 7 = .ok (.astore_n 1, 1) := by decide +kernel
theorem d_Se_stepForward_8 : decode b_Se_stepForward 8 = .ok (.aload_n 1, 1) := by decide +kernel
theorem d_Se_stepForward_9 : decode b_Se_stepForward 9 = .ok (.ifnonnull 5, 3) := by decide +kernel
theorem d_Se_stepForward_12 : decode b_Se_stepForward 12 = .ok (.iconst (-1), 1) := by decide +kernel
theorem d_Se_stepForward_13 : decode b_Se_stepForward 13 = .ok (.ireturn, 1) := by decide +kernel
theorem d_Se_stepForward_14 : decode b_Se_stepForward 14 = .ok (.aload_n 0, 1) := by decide +kernel
theorem d_Se_stepForward_15 : decode b_Se_stepForward 15 = .ok (.getfield 12, 3) := by decide +kernel
theorem d_Se_stepForward_18 : decode b_Se_stepForward 18 = .ok (.aload_n 1, 1) := by decide +kernel
theorem d_Se_stepForward_19 : decode b_Se_stepForward 19 = .ok (.getfield 65, 3) := by decide +kernel
theorem d_Se_stepForward_22 : decode b_Se_stepForward 22 = .ok (.aload_n 1, 1) := by decide +kernel
theorem d_Se_stepForward_23 : decode b_Se_stepForward 23 = .ok (.getfield 68, 3) := by decide +kernel
theorem d_Se_stepForward_26 : decode b_Se_stepForward 26 = .ok (.aload_n 1, 1) := by decide +kernel
theorem d_Se_stepForward_27 : decode b_Se_stepForward 27 = .ok (.getfield 71, 3) := by decide +kernel
theorem d_Se_stepForward_30 : decode b_Se_stepForward 30 = .ok (.invokevirtual 74, 3) := by decide +kernel
theorem d_Se_stepForward_33 : decode b_Se_stepForward 33 = .ok (.aload_n 0, 1) := by decide +kernel
theorem d_Se_stepForward_34 : decode b_Se_stepForward 34 = .ok (.aload_n 1, 1) := by decide +kernel
theorem d_Se_stepForward_35 : decode b_Se_stepForward 35 = .ok (.putfield 23, 3) := by decide +kernel
theorem d_Se_stepForward_38 : decode b_Se_stepForward 38 = .ok (.aload_n 1, 1) := by decide +kernel
theorem d_Se_stepForward_39 : decode b_Se_stepForward 39 = .ok (.getfield 78, 3) := by decide +kernel
theorem d_Se_stepForward_42 : decode b_Se_stepForward 42 = .ok (.ireturn, 1) := by decide +kernel
theorem d_Se_stepBack_0 : decode b_Se_stepBack 0 = .ok (.aload_n 0, 1) := by decide +kernel
theorem d_Se_stepBack_1 : decode b_Se_stepBack 1 = .ok (.getfield 23, 3) := by decide +kernel
theorem d_Se_stepBack_4 : decode b_Se_stepBack 4 = .ok (.astore_n 1, 1) := by decide +kernel
theorem d_Se_stepBack_5 : decode b_Se_stepBack 5 = .ok (.aload_n 1, 1) := by decide +kernel
theorem d_Se_stepBack_6 : decode b_Se_stepBack 6 = .ok (.getfield 79, 3) := by decide +kernel
theorem d_Se_stepBack_9 : decode b_Se_stepBack 9 = .ok (.astore_n 2, 1) := by decide +kernel
theorem d_Se_stepBack_10 : decode b_Se_stepBack 10 = .ok (.aload_n 2, 1) := by decide +kernel
theorem d_Se_stepBack_11 : decode b_Se_stepBack 11 = .ok (.ifnonnull 5, 3) := by decide +kernel
theorem d_Se_stepBack_14 : decode b_Se_stepBack 14 = .ok (.iconst (-1), 1) := by decide +kernel
theorem d_Se_stepBack_15 : decode b_Se_stepBack 15 = .ok (.ireturn, 1) := by decide +kernel
theorem d_Se_stepBack_16 : decode b_Se_stepBack 16 = .ok (.aload_n 0, 1) := by decide +kernel
theorem d_Se_stepBack_17 : decode b_Se_stepBack 17 = .ok (.getfield 12, 3) := by decide +kernel
theorem d_Se_stepBack_20 : decode b_Se_stepBack 20 = .ok (.aload_n 1, 1) := by decide +kernel
theorem d_Se_stepBack_21 : decode b_Se_stepBack 21 = .ok (.getfield 65, 3) := by decide +kernel
theorem d_Se_stepBack_24 : decode b_Se_stepBack 24 = .ok (.aload_n 1, 1) := by decide +kernel
theorem d_Se_stepBack_25 : decode b_Se_stepBack 25 = .ok (.getfield 68, 3) := by decide +kernel
theorem d_Se_stepBack_28 : decode b_Se_stepBack 28 = .ok (.aload_n 1, 1) := by decide +kernel
theorem d_Se_stepBack_29 : decode b_Se_stepBack 29 = .ok (.getfield 82, 3) := by decide +kernel
theorem d_Se_stepBack_32 : decode b_Se_stepBack 32 = .ok (.invokevirtual 74, 3) := by decide +kernel
theorem d_Se_stepBack_35 : decode b_Se_stepBack 35 = .ok (.aload_n 0, 1) := by decide +kernel
theorem d_Se_stepBack_36 : decode b_Se_stepBack 36 = .ok (.aload_n 2, 1) := by decide +kernel
theorem d_Se_stepBack_37 : decode b_Se_stepBack 37 = .ok (.putfield 23, 3) := by decide +kernel
theorem d_Se_stepBack_40 : decode b_Se_stepBack 40 = .ok (.aload_n 2, 1) := by decide +kernel
theorem d_Se_stepBack_41 : decode b_Se_stepBack 41 = .ok (.getfield 78, 3) := by decide +kernel
theorem d_Se_stepBack_44 : decode b_Se_stepBack 44 = .ok (.ireturn, 1) := by decide +kernel
theorem d_St_init_0 : decode b_St_init 0 = .ok (.aload_n 0, 1) := by decide +kernel
theorem d_St_init_1 : decode b_St_init 1 = .ok (.invokespecial 3, 3) := by decide +kernel
theorem d_St_init_4 : decode b_St_init 4 = .ok (.aload_n 0, 1) := by decide +kernel
theorem d_St_init_5 : decode b_St_init 5 = .ok (.sipush 360, 3) := by decide +kernel
theorem d_St_init_8 : decode b_St_init 8 = .ok (.newarray .int, 2) := by decide +kernel
theorem d_St_init_10 : decode b_St_init 10 = .ok (.putfield 9, 3) := by decide +kernel
theorem d_St_init_13 : decode b_St_init 13 = .ok (.return_, 1) := by decide +kernel
theorem d_St_has_0 : decode b_St_has 0 = .ok (.aload_n 0, 1) := by decide +kernel
theorem d_St_has_1 : decode b_St_has 1 = .ok (.iload_n 1, 1) := by decide +kernel
theorem d_St_has_2 : decode b_St_has 2 = .ok (.iconst (-1), 1) := by decide +kernel
theorem d_St_has_3 : decode b_St_has 3 = .ok (.invokevirtual 15, 3) := by decide +kernel
theorem d_St_has_6 : decode b_St_has 6 = .ok (.iconst 1, 1) := by decide +kernel
theorem d_St_has_7 : decode b_St_has 7 = .ok (.if_icmp .ne 7, 3) := by decide +kernel
theorem d_St_has_10 : decode b_St_has 10 = .ok (.iconst 1, 1) := by decide +kernel
theorem d_St_has_11 : decode b_St_has 11 = .ok (.goto 4, 3) := by decide +kernel
theorem d_St_has_14 : decode b_St_has 14 = .ok (.iconst 0, 1) := by decide +kernel
theorem d_St_has_15 : decode b_St_has 15 = .ok (.ireturn, 1) := by decide +kernel
theorem d_St_value_0 : decode b_St_value 0 = .ok (.iload_n 1, 1) := by decide +kernel
theorem d_St_value_1 : decode b_St_value 1 = .ok (.iload_n 2, 1) := by decide +kernel
theorem d_St_value_2 : decode b_St_value 2 = .ok (.invokestatic 19, 3) := by decide +kernel
theorem d_St_value_5 : decode b_St_value 5 = .ok (.ifCond .eq 16, 3) := by decide +kernel
theorem d_St_value_8 : decode b_St_value 8 = .ok (.aload_n 0, 1) := by decide +kernel
theorem d_St_value_9 : decode b_St_value 9 = .ok (.getfield 9, 3) := by decide +kernel
theorem d_St_value_12 : decode b_St_value 12 = .ok (.iload_n 1, 1) := by decide +kernel
theorem d_St_value_13 : decode b_St_value 13 = .ok (.iload_n 2, 1) := by decide +kernel
theorem d_St_value_14 : decode b_St_value 14 = .ok (.invokestatic 23, 3) := by decide +kernel
theorem d_St_value_17 : decode b_St_value 17 = .ok (.iaload, 1) := by decide +kernel
theorem d_St_value_18 : decode b_St_value 18 = .ok (.goto 4, 3) := by decide +kernel
theorem d_St_value_21 : decode b_St_value 21 = .ok (.iconst 0, 1) := by decide +kernel
theorem d_St_value_22 : decode b_St_value 22 = .ok (.ireturn, 1) := by decide +kernel
theorem d_St_put_0 : decode b_St_put 0 = .ok (.iload_n 1, 1) := by decide +kernel
theorem d_St_put_1 : decode b_St_put 1 = .ok (.iload_n 2, 1) := by decide +kernel
theorem d_St_put_2 : decode b_St_put 2 = .ok (.invokestatic 19, 3) := by decide +kernel
theorem d_St_put_5 : decode b_St_put 5 = .ok (.ifCond .eq 14, 3) := by decide +kernel
theorem d_St_put_8 : decode b_St_put 8 = .ok (.aload_n 0, 1) := by decide +kernel
theorem d_St_put_9 : decode b_St_put 9 = .ok (.getfield 9, 3) := by decide +kernel
theorem d_St_put_12 : decode b_St_put 12 = .ok (.iload_n 1, 1) := by decide +kernel
theorem d_St_put_13 : decode b_St_put 13 = .ok (.iload_n 2, 1) := by decide +kernel
theorem d_St_put_14 : decode b_St_put 14 = .ok (.invokestatic 23, 3) := by decide +kernel
theorem d_St_put_17 : decode b_St_put 17 = .ok (.iload_n 3, 1) := by decide +kernel
theorem d_St_put_18 : decode b_St_put 18 = .ok (.iastore, 1) := by decide +kernel
theorem d_St_put_19 : decode b_St_put 19 = .ok (.return_, 1) := by decide +kernel
theorem d_St_copyThing_0 : decode b_St_copyThing 0 = .ok (.aload_n 1, 1) := by decide +kernel
theorem d_St_copyThing_1 : decode b_St_copyThing 1 = .ok (.iload_n 2, 1) := by decide +kernel
theorem d_St_copyThing_2 : decode b_St_copyThing 2 = .ok (.invokevirtual 26, 3) := by decide +kernel
theorem d_St_copyThing_5 : decode b_St_copyThing 5 = .ok (.istore_n 3, 1) := by decide +kernel
theorem d_St_copyThing_6 : decode b_St_copyThing 6 = .ok (.iconst (-1), 1) := by decide +kernel
theorem d_St_copyThing_7 : decode b_St_copyThing 7 = .ok (.istore 4, 2) := by decide +kernel
theorem d_St_copyThing_9 : decode b_St_copyThing 9 = .ok (.iload 4, 2) := by decide +kernel
theorem d_St_copyThing_11 : decode b_St_copyThing 11 = .ok (.iconst 5, 1) := by decide +kernel
theorem d_St_copyThing_12 : decode b_St_copyThing 12 = .ok (.if_icmp .ge 31, 3) := by decide +kernel
theorem d_St_copyThing_15 : decode b_St_copyThing 15 = .ok (.aload_n 0, 1) := by decide +kernel
theorem d_St_copyThing_16 : decode b_St_copyThing 16 = .ok (.iload_n 2, 1) := by decide +kernel
theorem d_St_copyThing_17 : decode b_St_copyThing 17 = .ok (.iload 4, 2) := by decide +kernel
theorem d_St_copyThing_19 : decode b_St_copyThing 19 = .ok (.iload_n 3, 1) := by decide +kernel
theorem d_St_copyThing_20 : decode b_St_copyThing 20 = .ok (.ifCond .eq 13, 3) := by decide +kernel
theorem d_St_copyThing_23 : decode b_St_copyThing 23 = .ok (.aload_n 1, 1) := by decide +kernel
theorem d_St_copyThing_24 : decode b_St_copyThing 24 = .ok (.iload_n 2, 1) := by decide +kernel
theorem d_St_copyThing_25 : decode b_St_copyThing 25 = .ok (.iload 4, 2) := by decide +kernel
theorem d_St_copyThing_27 : decode b_St_copyThing 27 = .ok (.invokevirtual 15, 3) := by decide +kernel
theorem d_St_copyThing_30 : decode b_St_copyThing 30 = .ok (.goto 4, 3) := by decide +kernel
theorem d_St_copyThing_33 : decode b_St_copyThing 33 = .ok (.iconst 0, 1) := by decide +kernel
theorem d_St_copyThing_34 : decode b_St_copyThing 34 = .ok (.invokevirtual 30, 3) := by decide +kernel
theorem d_St_copyThing_37 : decode b_St_copyThing 37 = .ok (.iinc 4 1, 3) := by decide +kernel
theorem d_St_copyThing_40 : decode b_St_copyThing 40 = .ok (.goto (-31), 3) := by decide +kernel
theorem d_St_copyThing_43 : decode b_St_copyThing 43 = .ok (.return_, 1) := by decide +kernel
theorem d_St_copyAll_0 : decode b_St_copyAll 0 = .ok (.aload_n 1, 1) := by decide +kernel
theorem d_St_copyAll_1 : decode b_St_copyAll 1 = .ok (.getfield 9, 3) := by decide +kernel
theorem d_St_copyAll_4 : decode b_St_copyAll 4 = .ok (.iconst 0, 1) := by decide +kernel
theorem d_St_copyAll_5 : decode b_St_copyAll 5 = .ok (.aload_n 0, 1) := by decide +kernel
theorem d_St_copyAll_6 : decode b_St_copyAll 6 = .ok (.getfield 9, 3) := by decide +kernel
theorem d_St_copyAll_9 : decode b_St_copyAll 9 = .ok (.iconst 0, 1) := by decide +kernel
theorem d_St_copyAll_10 : decode b_St_copyAll 10 = .ok (.sipush 360, 3) := by decide +kernel
theorem d_St_copyAll_13 : decode b_St_copyAll 13 = .ok (.invokestatic 34, 3) := by decide +kernel
theorem d_St_copyAll_16 : decode b_St_copyAll 16 = .ok (.return_, 1) := by decide +kernel
theorem d_St_isCell_0 : decode b_St_isCell 0 = .ok (.iload_n 0, 1) := by decide +kernel
theorem d_St_isCell_1 : decode b_St_isCell 1 = .ok (.ifCond .lt 23, 3) := by decide +kernel
theorem d_St_isCell_4 : decode b_St_isCell 4 = .ok (.iload_n 0, 1) := by decide +kernel
theorem d_St_isCell_5 : decode b_St_isCell 5 = .ok (.bipush 60, 2) := by decide +kernel
theorem d_St_isCell_7 : decode b_St_isCell 7 = .ok (.if_icmp .ge 17, 3) := by decide +kernel
theorem d_St_isCell_10 : decode b_St_isCell 10 = .ok (.iload_n 1, 1) := by decide +kernel
theorem d_St_isCell_11 : decode b_St_isCell 11 = .ok (.iconst (-1), 1) := by decide +kernel
theorem d_St_isCell_12 : decode b_St_isCell 12 = .ok (.if_icmp .lt 12, 3) := by decide +kernel
theorem d_St_isCell_15 : decode b_St_isCell 15 = .ok (.iload_n 1, 1) := by decide +kernel
theorem d_St_isCell_16 : decode b_St_isCell 16 = .ok (.iconst 5, 1) := by decide +kernel
theorem d_St_isCell_17 : decode b_St_isCell 17 = .ok (.if_icmp .ge 7, 3) := by decide +kernel
theorem d_St_isCell_20 : decode b_St_isCell 20 = .ok (.iconst 1, 1) := by decide +kernel
theorem d_St_isCell_21 : decode b_St_isCell 21 = .ok (.goto 4, 3) := by decide +kernel
theorem d_St_isCell_24 : decode b_St_isCell 24 = .ok (.iconst 0, 1) := by decide +kernel
theorem d_St_isCell_25 : decode b_St_isCell 25 = .ok (.ireturn, 1) := by decide +kernel
theorem d_St_cellOf_0 : decode b_St_cellOf 0 = .ok (.iload_n 0, 1) := by decide +kernel
theorem d_St_cellOf_1 : decode b_St_cellOf 1 = .ok (.bipush 6, 2) := by decide +kernel
theorem d_St_cellOf_3 : decode b_St_cellOf 3 = .ok (.imul, 1) := by decide +kernel
theorem d_St_cellOf_4 : decode b_St_cellOf 4 = .ok (.iload_n 1, 1) := by decide +kernel
theorem d_St_cellOf_5 : decode b_St_cellOf 5 = .ok (.iadd, 1) := by decide +kernel
theorem d_St_cellOf_6 : decode b_St_cellOf 6 = .ok (.iconst (-1), 1) := by decide +kernel
theorem d_St_cellOf_7 : decode b_St_cellOf 7 = .ok (.isub, 1) := by decide +kernel
theorem d_St_cellOf_8 : decode b_St_cellOf 8 = .ok (.ireturn, 1) := by decide +kernel
theorem d_Ve_init_0 : decode b_Ve_init 0 = .ok (.aload_n 0, 1) := by decide +kernel
theorem d_Ve_init_1 : decode b_Ve_init 1 = .ok (.invokespecial 3, 3) := by decide +kernel
theorem d_Ve_init_4 : decode b_Ve_init 4 = .ok (.aload_n 0, 1) := by decide +kernel
theorem d_Ve_init_5 : decode b_Ve_init 5 = .ok (.sipush 300, 3) := by decide +kernel
theorem d_Ve_init_8 : decode b_Ve_init 8 = .ok (.newarray .int, 2) := by decide +kernel
theorem d_Ve_init_10 : decode b_Ve_init 10 = .ok (.putfield 9, 3) := by decide +kernel
theorem d_Ve_init_13 : decode b_Ve_init 13 = .ok (.aload_n 0, 1) := by decide +kernel
theorem d_Ve_init_14 : decode b_Ve_init 14 = .ok (.iload_n 1, 1) := by decide +kernel
theorem d_Ve_init_15 : decode b_Ve_init 15 = .ok (.putfield 15, 3) := by decide +kernel
theorem d_Ve_init_18 : decode b_Ve_init 18 = .ok (.aload_n 0, 1) := by decide +kernel
theorem d_Ve_init_19 : decode b_Ve_init 19 = .ok (.iload_n 2, 1) := by decide +kernel
theorem d_Ve_init_20 : decode b_Ve_init 20 = .ok (.putfield 19, 3) := by decide +kernel
theorem d_Ve_init_23 : decode b_Ve_init 23 = .ok (.aload_n 0, 1) := by decide +kernel
theorem d_Ve_init_24 : decode b_Ve_init 24 = .ok (.aload_n 3, 1) := by decide +kernel
theorem d_Ve_init_25 : decode b_Ve_init 25 = .ok (.putfield 22, 3) := by decide +kernel
theorem d_Ve_init_28 : decode b_Ve_init 28 = .ok (.return_, 1) := by decide +kernel
theorem d_Ve_traceOrigins_0 : decode b_Ve_traceOrigins 0 = .ok (.iconst 0, 1) := by decide +kernel
theorem d_Ve_traceOrigins_1 : decode b_Ve_traceOrigins 1 = .ok (.istore_n 2, 1) := by decide +kernel
theorem d_Ve_traceOrigins_2 : decode b_Ve_traceOrigins 2 = .ok (.iload_n 2, 1) := by decide +kernel
theorem d_Ve_traceOrigins_3 : decode b_Ve_traceOrigins 3 = .ok (.bipush 60, 2) := by decide +kernel
theorem d_Ve_traceOrigins_5 : decode b_Ve_traceOrigins 5 = .ok (.if_icmp .ge 97, 3) := by decide +kernel
theorem d_Ve_traceOrigins_8 : decode b_Ve_traceOrigins 8 = .ok (.aload_n 1, 1) := by decide +kernel
theorem d_Ve_traceOrigins_9 : decode b_Ve_traceOrigins 9 = .ok (.getfield 22, 3) := by decide +kernel
theorem d_Ve_traceOrigins_12 : decode b_Ve_traceOrigins 12 = .ok (.iload_n 2, 1) := by decide +kernel
theorem d_Ve_traceOrigins_13 : decode b_Ve_traceOrigins 13 = .ok (.invokevirtual 26, 3) := by decide +kernel
theorem d_Ve_traceOrigins_16 : decode b_Ve_traceOrigins 16 = .ok (.istore_n 3, 1) := by decide +kernel
theorem d_Ve_traceOrigins_17 : decode b_Ve_traceOrigins 17 = .ok (.iconst 0, 1) := by decide +kernel
theorem d_Ve_traceOrigins_18 : decode b_Ve_traceOrigins 18 = .ok (.istore 4, 2) := by decide +kernel
theorem d_Ve_traceOrigins_20 : decode b_Ve_traceOrigins 20 = .ok (.iload 4, 2) := by decide +kernel
theorem d_Ve_traceOrigins_22 : decode b_Ve_traceOrigins 22 = .ok (.iconst 5, 1) := by decide +kernel
theorem d_Ve_traceOrigins_23 : decode b_Ve_traceOrigins 23 = .ok (.if_icmp .ge 73, 3) := by decide +kernel
theorem d_Ve_traceOrigins_26 : decode b_Ve_traceOrigins 26 = .ok (.iload_n 3, 1) := by decide +kernel
theorem d_Ve_traceOrigins_27 : decode b_Ve_traceOrigins 27 = .ok (.ifCond .eq 30, 3) := by decide +kernel
theorem d_Ve_traceOrigins_30 : decode b_Ve_traceOrigins 30 = .ok (.aload_n 1, 1) := by decide +kernel
theorem d_Ve_traceOrigins_31 : decode b_Ve_traceOrigins 31 = .ok (.getfield 22, 3) := by decide +kernel
theorem d_Ve_traceOrigins_34 : decode b_Ve_traceOrigins 34 = .ok (.iload_n 2, 1) := by decide +kernel
theorem d_Ve_traceOrigins_35 : decode b_Ve_traceOrigins 35 = .ok (.iload 4, 2) := by decide +kernel
theorem d_Ve_traceOrigins_37 : decode b_Ve_traceOrigins 37 = .ok (.invokevirtual 32, 3) := by decide +kernel
theorem d_Ve_traceOrigins_40 : decode b_Ve_traceOrigins 40 = .ok (.aload_n 0, 1) := by decide +kernel
theorem d_Ve_traceOrigins_41 : decode b_Ve_traceOrigins 41 = .ok (.getfield 22, 3) := by decide +kernel
theorem d_Ve_traceOrigins_44 : decode b_Ve_traceOrigins 44 = .ok (.iload_n 2, 1) := by decide +kernel
theorem d_Ve_traceOrigins_45 : decode b_Ve_traceOrigins 45 = .ok (.iload 4, 2) := by decide +kernel
theorem d_Ve_traceOrigins_47 : decode b_Ve_traceOrigins 47 = .ok (.invokevirtual 32, 3) := by decide +kernel
theorem d_Ve_traceOrigins_50 : decode b_Ve_traceOrigins 50 = .ok (.if_icmp .ne 7, 3) := by decide +kernel
theorem d_Ve_traceOrigins_53 : decode b_Ve_traceOrigins 53 = .ok (.iconst 1, 1) := by decide +kernel
theorem d_Ve_traceOrigins_54 : decode b_Ve_traceOrigins 54 = .ok (.goto 4, 3) := by decide +kernel
theorem d_Ve_traceOrigins_57 : decode b_Ve_traceOrigins 57 = .ok (.iconst 0, 1) := by decide +kernel
theorem d_Ve_traceOrigins_58 : decode b_Ve_traceOrigins 58 = .ok (.istore 5, 2) := by decide +kernel
theorem d_Ve_traceOrigins_60 : decode b_Ve_traceOrigins 60 = .ok (.aload_n 0, 1) := by decide +kernel
theorem d_Ve_traceOrigins_61 : decode b_Ve_traceOrigins 61 = .ok (.getfield 9, 3) := by decide +kernel
theorem d_Ve_traceOrigins_64 : decode b_Ve_traceOrigins 64 = .ok (.iload_n 2, 1) := by decide +kernel
theorem d_Ve_traceOrigins_65 : decode b_Ve_traceOrigins 65 = .ok (.iconst 5, 1) := by decide +kernel
theorem d_Ve_traceOrigins_66 : decode b_Ve_traceOrigins 66 = .ok (.imul, 1) := by decide +kernel
theorem d_Ve_traceOrigins_67 : decode b_Ve_traceOrigins 67 = .ok (.iload 4, 2) := by decide +kernel
theorem d_Ve_traceOrigins_69 : decode b_Ve_traceOrigins 69 = .ok (.iadd, 1) := by decide +kernel
theorem d_Ve_traceOrigins_70 : decode b_Ve_traceOrigins 70 = .ok (.iload 5, 2) := by decide +kernel
theorem d_Ve_traceOrigins_72 : decode b_Ve_traceOrigins 72 = .ok (.ifCond .eq 13, 3) := by decide +kernel
theorem d_Ve_traceOrigins_75 : decode b_Ve_traceOrigins 75 = .ok (.aload_n 1, 1) := by decide +kernel
theorem d_Ve_traceOrigins_76 : decode b_Ve_traceOrigins 76 = .ok (.iload_n 2, 1) := by decide +kernel
theorem d_Ve_traceOrigins_77 : decode b_Ve_traceOrigins 77 = .ok (.iload 4, 2) := by decide +kernel
theorem d_Ve_traceOrigins_79 : decode b_Ve_traceOrigins 79 = .ok (.invokevirtual 36, 3) := by decide +kernel
theorem d_Ve_traceOrigins_82 : decode b_Ve_traceOrigins 82 = .ok (.goto 7, 3) := by decide +kernel
theorem d_Ve_traceOrigins_85 : decode b_Ve_traceOrigins 85 = .ok (.aload_n 0, 1) := by decide +kernel
theorem d_Ve_traceOrigins_86 : decode b_Ve_traceOrigins 86 = .ok (.getfield 15, 3) := by decide +kernel
theorem d_Ve_traceOrigins_89 : decode b_Ve_traceOrigins 89 = .ok (.iastore, 1) := by decide +kernel
theorem d_Ve_traceOrigins_90 : decode b_Ve_traceOrigins 90 = .ok (.iinc 4 1, 3) := by decide +kernel
theorem d_Ve_traceOrigins_93 : decode b_Ve_traceOrigins 93 = .ok (.goto (-73), 3) := by decide +kernel
theorem d_Ve_traceOrigins_96 : decode b_Ve_traceOrigins 96 = .ok (.iinc 2 1, 3) := by decide +kernel
theorem d_Ve_traceOrigins_99 : decode b_Ve_traceOrigins 99 = .ok (.goto (-97), 3) := by decide +kernel
theorem d_Ve_traceOrigins_102 : decode b_Ve_traceOrigins 102 = .ok (.return_, 1) := by decide +kernel
theorem d_Ve_origin_0 : decode b_Ve_origin 0 = .ok (.iload_n 1, 1) := by decide +kernel
theorem d_Ve_origin_1 : decode b_Ve_origin 1 = .ok (.ifCond .lt 22, 3) := by decide +kernel
theorem d_Ve_origin_4 : decode b_Ve_origin 4 = .ok (.iload_n 1, 1) := by decide +kernel
theorem d_Ve_origin_5 : decode b_Ve_origin 5 = .ok (.bipush 60, 2) := by decide +kernel
theorem d_Ve_origin_7 : decode b_Ve_origin 7 = .ok (.if_icmp .ge 16, 3) := by decide +kernel
theorem d_Ve_origin_10 : decode b_Ve_origin 10 = .ok (.iload_n 2, 1) := by decide +kernel
theorem d_Ve_origin_11 : decode b_Ve_origin 11 = .ok (.ifCond .lt 12, 3) := by decide +kernel
theorem d_Ve_origin_14 : decode b_Ve_origin 14 = .ok (.iload_n 2, 1) := by decide +kernel
theorem d_Ve_origin_15 : decode b_Ve_origin 15 = .ok (.iconst 5, 1) := by decide +kernel
theorem d_Ve_origin_16 : decode b_Ve_origin 16 = .ok (.if_icmp .ge 7, 3) := by decide +kernel
theorem d_Ve_origin_19 : decode b_Ve_origin 19 = .ok (.iconst 1, 1) := by decide +kernel
theorem d_Ve_origin_20 : decode b_Ve_origin 20 = .ok (.goto 4, 3) := by decide +kernel
theorem d_Ve_origin_23 : decode b_Ve_origin 23 = .ok (.iconst 0, 1) := by decide +kernel
theorem d_Ve_origin_24 : decode b_Ve_origin 24 = .ok (.istore_n 3, 1) := by decide +kernel
theorem d_Ve_origin_25 : decode b_Ve_origin 25 = .ok (.iload_n 3, 1) := by decide +kernel
theorem d_Ve_origin_26 : decode b_Ve_origin 26 = .ok (.ifCond .eq 16, 3) := by decide +kernel
theorem d_Ve_origin_29 : decode b_Ve_origin 29 = .ok (.aload_n 0, 1) := by decide +kernel
theorem d_Ve_origin_30 : decode b_Ve_origin 30 = .ok (.getfield 9, 3) := by decide +kernel
theorem d_Ve_origin_33 : decode b_Ve_origin 33 = .ok (.iload_n 1, 1) := by decide +kernel
theorem d_Ve_origin_34 : decode b_Ve_origin 34 = .ok (.iconst 5, 1) := by decide +kernel
theorem d_Ve_origin_35 : decode b_Ve_origin 35 = .ok (.imul, 1) := by decide +kernel
theorem d_Ve_origin_36 : decode b_Ve_origin 36 = .ok (.iload_n 2, 1) := by decide +kernel
theorem d_Ve_origin_37 : decode b_Ve_origin 37 = .ok (.iadd, 1) := by decide +kernel
theorem d_Ve_origin_38 : decode b_Ve_origin 38 = .ok (.iaload, 1) := by decide +kernel
theorem d_Ve_origin_39 : decode b_Ve_origin 39 = .ok (.goto 7, 3) := by decide +kernel
theorem d_Ve_origin_42 : decode b_Ve_origin 42 = .ok (.aload_n 0, 1) := by decide +kernel
theorem d_Ve_origin_43 : decode b_Ve_origin 43 = .ok (.getfield 15, 3) := by decide +kernel
theorem d_Ve_origin_46 : decode b_Ve_origin 46 = .ok (.ireturn, 1) := by decide +kernel
theorem d_Ve_countNewFields_0 : decode b_Ve_countNewFields 0 = .ok (.iconst 0, 1) := by decide +kernel
theorem d_Ve_countNewFields_1 : decode b_Ve_countNewFields 1 = .ok (.istore_n 2, 1) := by decide +kernel
theorem d_Ve_countNewFields_2 : decode b_Ve_countNewFields 2 = .ok (.iconst 0, 1) := by decide +kernel
theorem d_Ve_countNewFields_3 : decode b_Ve_countNewFields 3 = .ok (.istore_n 3, 1) := by decide +kernel
theorem d_Ve_countNewFields_4 : decode b_Ve_countNewFields 4 = .ok (.iload_n 3, 1) := by decide +kernel
theorem d_Ve_countNewFields_5 : decode b_Ve_countNewFields 5 = .ok (.iconst 5, 1) := by decide +kernel
theorem d_Ve_countNewFields_6 : decode b_Ve_countNewFields 6 = .ok (.if_icmp .ge 36, 3) := by decide +kernel
theorem d_Ve_countNewFields_9 : decode b_Ve_countNewFields 9 = .ok (.aload_n 0, 1) := by decide +kernel
theorem d_Ve_countNewFields_10 : decode b_Ve_countNewFields 10 = .ok (.getfield 22, 3) := by decide +kernel
theorem d_Ve_countNewFields_13 : decode b_Ve_countNewFields 13 = .ok (.iload_n 1, 1) := by decide +kernel
theorem d_Ve_countNewFields_14 : decode b_Ve_countNewFields 14 = .ok (.invokevirtual 26, 3) := by decide +kernel
theorem d_Ve_countNewFields_17 : decode b_Ve_countNewFields 17 = .ok (.ifCond .eq 19, 3) := by decide +kernel
theorem d_Ve_countNewFields_20 : decode b_Ve_countNewFields 20 = .ok (.aload_n 0, 1) := by decide +kernel
theorem d_Ve_countNewFields_21 : decode b_Ve_countNewFields 21 = .ok (.iload_n 1, 1) := by decide +kernel
theorem d_Ve_countNewFields_22 : decode b_Ve_countNewFields 22 = .ok (.iload_n 3, 1) := by decide +kernel
theorem d_Ve_countNewFields_23 : decode b_Ve_countNewFields 23 = .ok (.invokevirtual 36, 3) := by decide +kernel
theorem d_Ve_countNewFields_26 : decode b_Ve_countNewFields 26 = .ok (.aload_n 0, 1) := by decide +kernel
theorem d_Ve_countNewFields_27 : decode b_Ve_countNewFields 27 = .ok (.getfield 15, 3) := by decide +kernel
theorem d_Ve_countNewFields_30 : decode b_Ve_countNewFields 30 = .ok (.if_icmp .ne 6, 3) := by decide +kernel
theorem d_Ve_countNewFields_33 : decode b_Ve_countNewFields 33 = .ok (.iinc 2 1, 3) := by decide +kernel
theorem d_Ve_countNewFields_36 : decode b_Ve_countNewFields 36 = .ok (.iinc 3 1, 3) := by decide +kernel
theorem d_Ve_countNewFields_39 : decode b_Ve_countNewFields 39 = .ok (.goto (-35), 3) := by decide +kernel
theorem d_Ve_countNewFields_42 : decode b_Ve_countNewFields 42 = .ok (.iload_n 2, 1) := by decide +kernel
theorem d_Ve_countNewFields_43 : decode b_Ve_countNewFields 43 = .ok (.ireturn, 1) := by decide +kernel
theorem d_La_session_0 : decode b_La_session 0 = .ok (.aload_n 3, 1) := by decide +kernel
theorem d_La_session_1 : decode b_La_session 1 = .ok (.iconst 0, 1) := by decide +kernel
theorem d_La_session_2 : decode b_La_session 2 = .ok (.aload_n 0, 1) := by decide +kernel
theorem d_La_session_3 : decode b_La_session 3 = .ok (.iload_n 1, 1) := by decide +kernel
theorem d_La_session_4 : decode b_La_session 4 = .ok (.iload_n 2, 1) := by decide +kernel
theorem d_La_session_5 : decode b_La_session 5 = .ok (.invokevirtual 7, 3) := by decide +kernel
theorem d_La_session_8 : decode b_La_session 8 = .ok (.i2l, 1) := by decide +kernel
theorem d_La_session_9 : decode b_La_session 9 = .ok (.lastore, 1) := by decide +kernel
theorem d_La_session_10 : decode b_La_session 10 = .ok (.goto 11, 3) := by decide +kernel
theorem d_La_session_13 : decode b_La_session 13 = .ok (.astore 4, 2) := by decide +kernel
theorem d_La_session_15 : decode b_La_session 15 = .ok (.iconst 1, 1) := by decide +kernel
theorem d_La_session_16 : decode b_La_session 16 = .ok (.ireturn, 1) := by decide +kernel
theorem d_La_session_17 : decode b_La_session 17 = .ok (.astore 4, 2) := by decide +kernel
theorem d_La_session_19 : decode b_La_session 19 = .ok (.iconst 2, 1) := by decide +kernel
theorem d_La_session_20 : decode b_La_session 20 = .ok (.ireturn, 1) := by decide +kernel
theorem d_La_session_21 : decode b_La_session 21 = .ok (.iconst 0, 1) := by decide +kernel
theorem d_La_session_22 : decode b_La_session 22 = .ok (.ireturn, 1) := by decide +kernel
theorem d_La_make_0 : decode b_La_make 0 = .ok (.aload_n 3, 1) := by decide +kernel
theorem d_La_make_1 : decode b_La_make 1 = .ok (.iconst 0, 1) := by decide +kernel
theorem d_La_make_2 : decode b_La_make 2 = .ok (.aload_n 0, 1) := by decide +kernel
theorem d_La_make_3 : decode b_La_make 3 = .ok (.iload_n 1, 1) := by decide +kernel
theorem d_La_make_4 : decode b_La_make 4 = .ok (.iload_n 2, 1) := by decide +kernel
theorem d_La_make_5 : decode b_La_make 5 = .ok (.invokevirtual 17, 3) := by decide +kernel
theorem d_La_make_8 : decode b_La_make 8 = .ok (.i2l, 1) := by decide +kernel
theorem d_La_make_9 : decode b_La_make 9 = .ok (.lastore, 1) := by decide +kernel
theorem d_La_make_10 : decode b_La_make 10 = .ok (.goto 11, 3) := by decide +kernel
theorem d_La_make_13 : decode b_La_make 13 = .ok (.astore 4, 2) := by decide +kernel
theorem d_La_make_15 : decode b_La_make 15 = .ok (.iconst 1, 1) := by decide +kernel
theorem d_La_make_16 : decode b_La_make 16 = .ok (.ireturn, 1) := by decide +kernel
theorem d_La_make_17 : decode b_La_make 17 = .ok (.astore 4, 2) := by decide +kernel
theorem d_La_make_19 : decode b_La_make 19 = .ok (.iconst 2, 1) := by decide +kernel
theorem d_La_make_20 : decode b_La_make 20 = .ok (.ireturn, 1) := by decide +kernel
theorem d_La_make_21 : decode b_La_make 21 = .ok (.iconst 0, 1) := by decide +kernel
theorem d_La_make_22 : decode b_La_make 22 = .ok (.ireturn, 1) := by decide +kernel
theorem d_La_set_0 : decode b_La_set 0 = .ok (.aload 5, 2) := by decide +kernel
theorem d_La_set_2 : decode b_La_set 2 = .ok (.iconst 0, 1) := by decide +kernel
theorem d_La_set_3 : decode b_La_set 3 = .ok (.aload_n 0, 1) := by decide +kernel
theorem d_La_set_4 : decode b_La_set 4 = .ok (.iload_n 1, 1) := by decide +kernel
theorem d_La_set_5 : decode b_La_set 5 = .ok (.iload_n 2, 1) := by decide +kernel
theorem d_La_set_6 : decode b_La_set 6 = .ok (.iload_n 3, 1) := by decide +kernel
theorem d_La_set_7 : decode b_La_set 7 = .ok (.iload 4, 2) := by decide +kernel
theorem d_La_set_9 : decode b_La_set 9 = .ok (.invokevirtual 20, 3) := by decide +kernel
theorem d_La_set_12 : decode b_La_set 12 = .ok (.i2l, 1) := by decide +kernel
theorem d_La_set_13 : decode b_La_set 13 = .ok (.lastore, 1) := by decide +kernel
theorem d_La_set_14 : decode b_La_set 14 = .ok (.goto 11, 3) := by decide +kernel
theorem d_La_set_17 : decode b_La_set 17 = .ok (.astore 6, 2) := by decide +kernel
theorem d_La_set_19 : decode b_La_set 19 = .ok (.iconst 1, 1) := by decide +kernel
theorem d_La_set_20 : decode b_La_set 20 = .ok (.ireturn, 1) := by decide +kernel
theorem d_La_set_21 : decode b_La_set 21 = .ok (.astore 6, 2) := by decide +kernel
theorem d_La_set_23 : decode b_La_set 23 = .ok (.iconst 2, 1) := by decide +kernel
theorem d_La_set_24 : decode b_La_set 24 = .ok (.ireturn, 1) := by decide +kernel
theorem d_La_set_25 : decode b_La_set 25 = .ok (.iconst 0, 1) := by decide +kernel
theorem d_La_set_26 : decode b_La_set 26 = .ok (.ireturn, 1) := by decide +kernel
theorem d_La_drop_0 : decode b_La_drop 0 = .ok (.aload_n 3, 1) := by decide +kernel
theorem d_La_drop_1 : decode b_La_drop 1 = .ok (.iconst 0, 1) := by decide +kernel
theorem d_La_drop_2 : decode b_La_drop 2 = .ok (.aload_n 0, 1) := by decide +kernel
theorem d_La_drop_3 : decode b_La_drop 3 = .ok (.iload_n 1, 1) := by decide +kernel
theorem d_La_drop_4 : decode b_La_drop 4 = .ok (.iload_n 2, 1) := by decide +kernel
theorem d_La_drop_5 : decode b_La_drop 5 = .ok (.invokevirtual 24, 3) := by decide +kernel
theorem d_La_drop_8 : decode b_La_drop 8 = .ok (.i2l, 1) := by decide +kernel
theorem d_La_drop_9 : decode b_La_drop 9 = .ok (.lastore, 1) := by decide +kernel
theorem d_La_drop_10 : decode b_La_drop 10 = .ok (.goto 11, 3) := by decide +kernel
theorem d_La_drop_13 : decode b_La_drop 13 = .ok (.astore 4, 2) := by decide +kernel
theorem d_La_drop_15 : decode b_La_drop 15 = .ok (.iconst 1, 1) := by decide +kernel
theorem d_La_drop_16 : decode b_La_drop 16 = .ok (.ireturn, 1) := by decide +kernel
theorem d_La_drop_17 : decode b_La_drop 17 = .ok (.astore 4, 2) := by decide +kernel
theorem d_La_drop_19 : decode b_La_drop 19 = .ok (.iconst 2, 1) := by decide +kernel
theorem d_La_drop_20 : decode b_La_drop 20 = .ok (.ireturn, 1) := by decide +kernel
theorem d_La_drop_21 : decode b_La_drop 21 = .ok (.iconst 0, 1) := by decide +kernel
theorem d_La_drop_22 : decode b_La_drop 22 = .ok (.ireturn, 1) := by decide +kernel
theorem d_La_undo_0 : decode b_La_undo 0 = .ok (.aload_n 2, 1) := by decide +kernel
theorem d_La_undo_1 : decode b_La_undo 1 = .ok (.iconst 0, 1) := by decide +kernel
theorem d_La_undo_2 : decode b_La_undo 2 = .ok (.aload_n 0, 1) := by decide +kernel
theorem d_La_undo_3 : decode b_La_undo 3 = .ok (.iload_n 1, 1) := by decide +kernel
theorem d_La_undo_4 : decode b_La_undo 4 = .ok (.invokevirtual 27, 3) := by decide +kernel
theorem d_La_undo_7 : decode b_La_undo 7 = .ok (.i2l, 1) := by decide +kernel
theorem d_La_undo_8 : decode b_La_undo 8 = .ok (.lastore, 1) := by decide +kernel
theorem d_La_undo_9 : decode b_La_undo 9 = .ok (.goto 9, 3) := by decide +kernel
theorem d_La_undo_12 : decode b_La_undo 12 = .ok (.astore_n 3, 1) := by decide +kernel
theorem d_La_undo_13 : decode b_La_undo 13 = .ok (.iconst 1, 1) := by decide +kernel
theorem d_La_undo_14 : decode b_La_undo 14 = .ok (.ireturn, 1) := by decide +kernel
theorem d_La_undo_15 : decode b_La_undo 15 = .ok (.astore_n 3, 1) := by decide +kernel
theorem d_La_undo_16 : decode b_La_undo 16 = .ok (.iconst 2, 1) := by decide +kernel
theorem d_La_undo_17 : decode b_La_undo 17 = .ok (.ireturn, 1) := by decide +kernel
theorem d_La_undo_18 : decode b_La_undo 18 = .ok (.iconst 0, 1) := by decide +kernel
theorem d_La_undo_19 : decode b_La_undo 19 = .ok (.ireturn, 1) := by decide +kernel
theorem d_La_redo_0 : decode b_La_redo 0 = .ok (.aload_n 2, 1) := by decide +kernel
theorem d_La_redo_1 : decode b_La_redo 1 = .ok (.iconst 0, 1) := by decide +kernel
theorem d_La_redo_2 : decode b_La_redo 2 = .ok (.aload_n 0, 1) := by decide +kernel
theorem d_La_redo_3 : decode b_La_redo 3 = .ok (.iload_n 1, 1) := by decide +kernel
theorem d_La_redo_4 : decode b_La_redo 4 = .ok (.invokevirtual 31, 3) := by decide +kernel
theorem d_La_redo_7 : decode b_La_redo 7 = .ok (.i2l, 1) := by decide +kernel
theorem d_La_redo_8 : decode b_La_redo 8 = .ok (.lastore, 1) := by decide +kernel
theorem d_La_redo_9 : decode b_La_redo 9 = .ok (.goto 9, 3) := by decide +kernel
theorem d_La_redo_12 : decode b_La_redo 12 = .ok (.astore_n 3, 1) := by decide +kernel
theorem d_La_redo_13 : decode b_La_redo 13 = .ok (.iconst 1, 1) := by decide +kernel
theorem d_La_redo_14 : decode b_La_redo 14 = .ok (.ireturn, 1) := by decide +kernel
theorem d_La_redo_15 : decode b_La_redo 15 = .ok (.astore_n 3, 1) := by decide +kernel
theorem d_La_redo_16 : decode b_La_redo 16 = .ok (.iconst 2, 1) := by decide +kernel
theorem d_La_redo_17 : decode b_La_redo 17 = .ok (.ireturn, 1) := by decide +kernel
theorem d_La_redo_18 : decode b_La_redo 18 = .ok (.iconst 0, 1) := by decide +kernel
theorem d_La_redo_19 : decode b_La_redo 19 = .ok (.ireturn, 1) := by decide +kernel
theorem d_La_lock_0 : decode b_La_lock 0 = .ok (.aload_n 3, 1) := by decide +kernel
theorem d_La_lock_1 : decode b_La_lock 1 = .ok (.iconst 0, 1) := by decide +kernel
theorem d_La_lock_2 : decode b_La_lock 2 = .ok (.aload_n 0, 1) := by decide +kernel
theorem d_La_lock_3 : decode b_La_lock 3 = .ok (.iload_n 1, 1) := by decide +kernel
theorem d_La_lock_4 : decode b_La_lock 4 = .ok (.iload_n 2, 1) := by decide +kernel
theorem d_La_lock_5 : decode b_La_lock 5 = .ok (.invokevirtual 34, 3) := by decide +kernel
theorem d_La_lock_8 : decode b_La_lock 8 = .ok (.i2l, 1) := by decide +kernel
theorem d_La_lock_9 : decode b_La_lock 9 = .ok (.lastore, 1) := by decide +kernel
theorem d_La_lock_10 : decode b_La_lock 10 = .ok (.goto 7, 3) := by decide +kernel
theorem d_La_lock_13 : decode b_La_lock 13 = .ok (.astore 4, 2) := by decide +kernel
theorem d_La_lock_15 : decode b_La_lock 15 = .ok (.iconst 1, 1) := by decide +kernel
theorem d_La_lock_16 : decode b_La_lock 16 = .ok (.ireturn, 1) := by decide +kernel
theorem d_La_lock_17 : decode b_La_lock 17 = .ok (.iconst 0, 1) := by decide +kernel
theorem d_La_lock_18 : decode b_La_lock 18 = .ok (.ireturn, 1) := by decide +kernel
theorem d_La_rule_0 : decode b_La_rule 0 = .ok (.aload 4, 2) := by decide +kernel
theorem d_La_rule_2 : decode b_La_rule 2 = .ok (.iconst 0, 1) := by decide +kernel
theorem d_La_rule_3 : decode b_La_rule 3 = .ok (.aload_n 0, 1) := by decide +kernel
theorem d_La_rule_4 : decode b_La_rule 4 = .ok (.iload_n 1, 1) := by decide +kernel
theorem d_La_rule_5 : decode b_La_rule 5 = .ok (.iload_n 2, 1) := by decide +kernel
theorem d_La_rule_6 : decode b_La_rule 6 = .ok (.iload_n 3, 1) := by decide +kernel
theorem d_La_rule_7 : decode b_La_rule 7 = .ok (.invokevirtual 37, 3) := by decide +kernel
theorem d_La_rule_10 : decode b_La_rule 10 = .ok (.i2l, 1) := by decide +kernel
theorem d_La_rule_11 : decode b_La_rule 11 = .ok (.lastore, 1) := by decide +kernel
theorem d_La_rule_12 : decode b_La_rule 12 = .ok (.goto 11, 3) := by decide +kernel
theorem d_La_rule_15 : decode b_La_rule 15 = .ok (.astore 5, 2) := by decide +kernel
theorem d_La_rule_17 : decode b_La_rule 17 = .ok (.iconst 1, 1) := by decide +kernel
theorem d_La_rule_18 : decode b_La_rule 18 = .ok (.ireturn, 1) := by decide +kernel
theorem d_La_rule_19 : decode b_La_rule 19 = .ok (.astore 5, 2) := by decide +kernel
theorem d_La_rule_21 : decode b_La_rule 21 = .ok (.iconst 2, 1) := by decide +kernel
theorem d_La_rule_22 : decode b_La_rule 22 = .ok (.ireturn, 1) := by decide +kernel
theorem d_La_rule_23 : decode b_La_rule 23 = .ok (.iconst 0, 1) := by decide +kernel
theorem d_La_rule_24 : decode b_La_rule 24 = .ok (.ireturn, 1) := by decide +kernel
theorem d_La_join_0 : decode b_La_join 0 = .ok (.aload_n 2, 1) := by decide +kernel
theorem d_La_join_1 : decode b_La_join 1 = .ok (.iconst 0, 1) := by decide +kernel
theorem d_La_join_2 : decode b_La_join 2 = .ok (.aload_n 0, 1) := by decide +kernel
theorem d_La_join_3 : decode b_La_join 3 = .ok (.iload_n 1, 1) := by decide +kernel
theorem d_La_join_4 : decode b_La_join 4 = .ok (.invokevirtual 41, 3) := by decide +kernel
theorem d_La_join_7 : decode b_La_join 7 = .ok (.i2l, 1) := by decide +kernel
theorem d_La_join_8 : decode b_La_join 8 = .ok (.lastore, 1) := by decide +kernel
theorem d_La_join_9 : decode b_La_join 9 = .ok (.goto 9, 3) := by decide +kernel
theorem d_La_join_12 : decode b_La_join 12 = .ok (.astore_n 3, 1) := by decide +kernel
theorem d_La_join_13 : decode b_La_join 13 = .ok (.iconst 1, 1) := by decide +kernel
theorem d_La_join_14 : decode b_La_join 14 = .ok (.ireturn, 1) := by decide +kernel
theorem d_La_join_15 : decode b_La_join 15 = .ok (.astore_n 3, 1) := by decide +kernel
theorem d_La_join_16 : decode b_La_join 16 = .ok (.iconst 2, 1) := by decide +kernel
theorem d_La_join_17 : decode b_La_join 17 = .ok (.ireturn, 1) := by decide +kernel
theorem d_La_join_18 : decode b_La_join 18 = .ok (.iconst 0, 1) := by decide +kernel
theorem d_La_join_19 : decode b_La_join 19 = .ok (.ireturn, 1) := by decide +kernel
theorem d_La_conflict_0 : decode b_La_conflict 0 = .ok (.aload_n 3, 1) := by decide +kernel
theorem d_La_conflict_1 : decode b_La_conflict 1 = .ok (.iconst 0, 1) := by decide +kernel
theorem d_La_conflict_2 : decode b_La_conflict 2 = .ok (.aload_n 0, 1) := by decide +kernel
theorem d_La_conflict_3 : decode b_La_conflict 3 = .ok (.iload_n 1, 1) := by decide +kernel
theorem d_La_conflict_4 : decode b_La_conflict 4 = .ok (.iload_n 2, 1) := by decide +kernel
theorem d_La_conflict_5 : decode b_La_conflict 5 = .ok (.invokevirtual 44, 3) := by decide +kernel
theorem d_La_conflict_8 : decode b_La_conflict 8 = .ok (.i2l, 1) := by decide +kernel
theorem d_La_conflict_9 : decode b_La_conflict 9 = .ok (.lastore, 1) := by decide +kernel
theorem d_La_conflict_10 : decode b_La_conflict 10 = .ok (.goto 11, 3) := by decide +kernel
theorem d_La_conflict_13 : decode b_La_conflict 13 = .ok (.astore 4, 2) := by decide +kernel
theorem d_La_conflict_15 : decode b_La_conflict 15 = .ok (.iconst 1, 1) := by decide +kernel
theorem d_La_conflict_16 : decode b_La_conflict 16 = .ok (.ireturn, 1) := by decide +kernel
theorem d_La_conflict_17 : decode b_La_conflict 17 = .ok (.astore 4, 2) := by decide +kernel
theorem d_La_conflict_19 : decode b_La_conflict 19 = .ok (.iconst 2, 1) := by decide +kernel
theorem d_La_conflict_20 : decode b_La_conflict 20 = .ok (.ireturn, 1) := by decide +kernel
theorem d_La_conflict_21 : decode b_La_conflict 21 = .ok (.iconst 0, 1) := by decide +kernel
theorem d_La_conflict_22 : decode b_La_conflict 22 = .ok (.ireturn, 1) := by decide +kernel
theorem d_La_settle_0 : decode b_La_settle 0 = .ok (.aload_n 3, 1) := by decide +kernel
theorem d_La_settle_1 : decode b_La_settle 1 = .ok (.iconst 0, 1) := by decide +kernel
theorem d_La_settle_2 : decode b_La_settle 2 = .ok (.aload_n 0, 1) := by decide +kernel
theorem d_La_settle_3 : decode b_La_settle 3 = .ok (.iload_n 1, 1) := by decide +kernel
theorem d_La_settle_4 : decode b_La_settle 4 = .ok (.iload_n 2, 1) := by decide +kernel
theorem d_La_settle_5 : decode b_La_settle 5 = .ok (.invokevirtual 47, 3) := by decide +kernel
theorem d_La_settle_8 : decode b_La_settle 8 = .ok (.i2l, 1) := by decide +kernel
theorem d_La_settle_9 : decode b_La_settle 9 = .ok (.lastore, 1) := by decide +kernel
theorem d_La_settle_10 : decode b_La_settle 10 = .ok (.goto 11, 3) := by decide +kernel
theorem d_La_settle_13 : decode b_La_settle 13 = .ok (.astore 4, 2) := by decide +kernel
theorem d_La_settle_15 : decode b_La_settle 15 = .ok (.iconst 1, 1) := by decide +kernel
theorem d_La_settle_16 : decode b_La_settle 16 = .ok (.ireturn, 1) := by decide +kernel
theorem d_La_settle_17 : decode b_La_settle 17 = .ok (.astore 4, 2) := by decide +kernel
theorem d_La_settle_19 : decode b_La_settle 19 = .ok (.iconst 2, 1) := by decide +kernel
theorem d_La_settle_20 : decode b_La_settle 20 = .ok (.ireturn, 1) := by decide +kernel
theorem d_La_settle_21 : decode b_La_settle 21 = .ok (.iconst 0, 1) := by decide +kernel
theorem d_La_settle_22 : decode b_La_settle 22 = .ok (.ireturn, 1) := by decide +kernel
theorem d_La_giveUp_0 : decode b_La_giveUp 0 = .ok (.aload_n 1, 1) := by decide +kernel
theorem d_La_giveUp_1 : decode b_La_giveUp 1 = .ok (.iconst 0, 1) := by decide +kernel
theorem d_La_giveUp_2 : decode b_La_giveUp 2 = .ok (.aload_n 0, 1) := by decide +kernel
theorem d_La_giveUp_3 : decode b_La_giveUp 3 = .ok (.invokevirtual 50, 3) := by decide +kernel
theorem d_La_giveUp_6 : decode b_La_giveUp 6 = .ok (.i2l, 1) := by decide +kernel
theorem d_La_giveUp_7 : decode b_La_giveUp 7 = .ok (.lastore, 1) := by decide +kernel
theorem d_La_giveUp_8 : decode b_La_giveUp 8 = .ok (.goto 6, 3) := by decide +kernel
theorem d_La_giveUp_11 : decode b_La_giveUp 11 = .ok (.astore_n 2, 1) := by decide +kernel
theorem d_La_giveUp_12 : decode b_La_giveUp 12 = .ok (.iconst 1, 1) := by decide +kernel
theorem d_La_giveUp_13 : decode b_La_giveUp 13 = .ok (.ireturn, 1) := by decide +kernel
theorem d_La_giveUp_14 : decode b_La_giveUp 14 = .ok (.iconst 0, 1) := by decide +kernel
theorem d_La_giveUp_15 : decode b_La_giveUp 15 = .ok (.ireturn, 1) := by decide +kernel
theorem d_La_here_0 : decode b_La_here 0 = .ok (.aload_n 3, 1) := by decide +kernel
theorem d_La_here_1 : decode b_La_here 1 = .ok (.iconst 0, 1) := by decide +kernel
theorem d_La_here_2 : decode b_La_here 2 = .ok (.aload_n 0, 1) := by decide +kernel
theorem d_La_here_3 : decode b_La_here 3 = .ok (.iload_n 1, 1) := by decide +kernel
theorem d_La_here_4 : decode b_La_here 4 = .ok (.iload_n 2, 1) := by decide +kernel
theorem d_La_here_5 : decode b_La_here 5 = .ok (.invokevirtual 54, 3) := by decide +kernel
theorem d_La_here_8 : decode b_La_here 8 = .ok (.i2l, 1) := by decide +kernel
theorem d_La_here_9 : decode b_La_here 9 = .ok (.lastore, 1) := by decide +kernel
theorem d_La_here_10 : decode b_La_here 10 = .ok (.goto 7, 3) := by decide +kernel
theorem d_La_here_13 : decode b_La_here 13 = .ok (.astore 4, 2) := by decide +kernel
theorem d_La_here_15 : decode b_La_here 15 = .ok (.iconst 1, 1) := by decide +kernel
theorem d_La_here_16 : decode b_La_here 16 = .ok (.ireturn, 1) := by decide +kernel
theorem d_La_here_17 : decode b_La_here 17 = .ok (.iconst 0, 1) := by decide +kernel
theorem d_La_here_18 : decode b_La_here 18 = .ok (.ireturn, 1) := by decide +kernel
