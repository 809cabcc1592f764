theorem d_La_now_0 : decode b_La_now 0 = .ok (.aload 4, 2) := by decide +kernel
theorem d_La_now_2 : decode b_La_now 2 = .ok (.iconst 0, 1) := by decide +kernel
theorem d_La_now_3 : decode b_La_now 3 = .ok (.aload_n 0, 1) := by decide +kernel
theorem d_La_now_4 : decode b_La_now 4 = .ok (.iload_n 1, 1) := by decide +kernel
theorem d_La_now_5 : decode b_La_now 5 = .ok (.iload_n 2, 1) := by decide +kernel
theorem d_La_now_6 : decode b_La_now 6 = .ok (.iload_n 3, 1) := by decide +kernel
theorem d_La_now_7 : decode b_La_now 7 = .ok (.invokevirtual 57, 3) := by decide +kernel
theorem d_La_now_10 : decode b_La_now 10 = .ok (.i2l, 1) := by decide +kernel
theorem d_La_now_11 : decode b_La_now 11 = .ok (.lastore, 1) := by decide +kernel
theorem d_La_now_12 : decode b_La_now 12 = .ok (.goto 7, 3) := by decide +kernel
theorem d_La_now_15 : decode b_La_now 15 = .ok (.astore 5, 2) := by decide +kernel
theorem d_La_now_17 : decode b_La_now 17 = .ok (.iconst 1, 1) := by decide +kernel
theorem d_La_now_18 : decode b_La_now 18 = .ok (.ireturn, 1) := by decide +kernel
theorem d_La_now_19 : decode b_La_now 19 = .ok (.iconst 0, 1) := by decide +kernel
theorem d_La_now_20 : decode b_La_now 20 = .ok (.ireturn, 1) := by decide +kernel
theorem d_La_there_0 : decode b_La_there 0 = .ok (.aload 4, 2) := by decide +kernel
theorem d_La_there_2 : decode b_La_there 2 = .ok (.iconst 0, 1) := by decide +kernel
theorem d_La_there_3 : decode b_La_there 3 = .ok (.aload_n 0, 1) := by decide +kernel
theorem d_La_there_4 : decode b_La_there 4 = .ok (.iload_n 1, 1) := by decide +kernel
theorem d_La_there_5 : decode b_La_there 5 = .ok (.iload_n 2, 1) := by decide +kernel
theorem d_La_there_6 : decode b_La_there 6 = .ok (.iload_n 3, 1) := by decide +kernel
theorem d_La_there_7 : decode b_La_there 7 = .ok (.invokevirtual 60, 3) := by decide +kernel
theorem d_La_there_10 : decode b_La_there 10 = .ok (.i2l, 1) := by decide +kernel
theorem d_La_there_11 : decode b_La_there 11 = .ok (.lastore, 1) := by decide +kernel
theorem d_La_there_12 : decode b_La_there 12 = .ok (.goto 7, 3) := by decide +kernel
theorem d_La_there_15 : decode b_La_there 15 = .ok (.astore 5, 2) := by decide +kernel
theorem d_La_there_17 : decode b_La_there 17 = .ok (.iconst 1, 1) := by decide +kernel
theorem d_La_there_18 : decode b_La_there 18 = .ok (.ireturn, 1) := by decide +kernel
theorem d_La_there_19 : decode b_La_there 19 = .ok (.iconst 0, 1) := by decide +kernel
theorem d_La_there_20 : decode b_La_there 20 = .ok (.ireturn, 1) := by decide +kernel
theorem d_La_at_0 : decode b_La_at 0 = .ok (.aload 4, 2) := by decide +kernel
theorem d_La_at_2 : decode b_La_at 2 = .ok (.iconst 0, 1) := by decide +kernel
theorem d_La_at_3 : decode b_La_at 3 = .ok (.aload_n 0, 1) := by decide +kernel
theorem d_La_at_4 : decode b_La_at 4 = .ok (.iload_n 1, 1) := by decide +kernel
theorem d_La_at_5 : decode b_La_at 5 = .ok (.iload_n 2, 1) := by decide +kernel
theorem d_La_at_6 : decode b_La_at 6 = .ok (.iload_n 3, 1) := by decide +kernel
theorem d_La_at_7 : decode b_La_at 7 = .ok (.invokevirtual 63, 3) := by decide +kernel
theorem d_La_at_10 : decode b_La_at 10 = .ok (.i2l, 1) := by decide +kernel
theorem d_La_at_11 : decode b_La_at 11 = .ok (.lastore, 1) := by decide +kernel
theorem d_La_at_12 : decode b_La_at 12 = .ok (.goto 7, 3) := by decide +kernel
theorem d_La_at_15 : decode b_La_at 15 = .ok (.astore 5, 2) := by decide +kernel
theorem d_La_at_17 : decode b_La_at 17 = .ok (.iconst 1, 1) := by decide +kernel
theorem d_La_at_18 : decode b_La_at 18 = .ok (.ireturn, 1) := by decide +kernel
theorem d_La_at_19 : decode b_La_at 19 = .ok (.iconst 0, 1) := by decide +kernel
theorem d_La_at_20 : decode b_La_at 20 = .ok (.ireturn, 1) := by decide +kernel
theorem d_La_since_0 : decode b_La_since 0 = .ok (.aload 4, 2) := by decide +kernel
theorem d_La_since_2 : decode b_La_since 2 = .ok (.iconst 0, 1) := by decide +kernel
theorem d_La_since_3 : decode b_La_since 3 = .ok (.aload_n 0, 1) := by decide +kernel
theorem d_La_since_4 : decode b_La_since 4 = .ok (.iload_n 1, 1) := by decide +kernel
theorem d_La_since_5 : decode b_La_since 5 = .ok (.iload_n 2, 1) := by decide +kernel
theorem d_La_since_6 : decode b_La_since 6 = .ok (.iload_n 3, 1) := by decide +kernel
theorem d_La_since_7 : decode b_La_since 7 = .ok (.invokevirtual 66, 3) := by decide +kernel
theorem d_La_since_10 : decode b_La_since 10 = .ok (.i2l, 1) := by decide +kernel
theorem d_La_since_11 : decode b_La_since 11 = .ok (.lastore, 1) := by decide +kernel
theorem d_La_since_12 : decode b_La_since 12 = .ok (.goto 7, 3) := by decide +kernel
theorem d_La_since_15 : decode b_La_since 15 = .ok (.astore 5, 2) := by decide +kernel
theorem d_La_since_17 : decode b_La_since 17 = .ok (.iconst 1, 1) := by decide +kernel
theorem d_La_since_18 : decode b_La_since 18 = .ok (.ireturn, 1) := by decide +kernel
theorem d_La_since_19 : decode b_La_since 19 = .ok (.iconst 0, 1) := by decide +kernel
theorem d_La_since_20 : decode b_La_since 20 = .ok (.ireturn, 1) := by decide +kernel
theorem d_La_told_0 : decode b_La_told 0 = .ok (.aload_n 3, 1) := by decide +kernel
theorem d_La_told_1 : decode b_La_told 1 = .ok (.iconst 0, 1) := by decide +kernel
theorem d_La_told_2 : decode b_La_told 2 = .ok (.aload_n 0, 1) := by decide +kernel
theorem d_La_told_3 : decode b_La_told 3 = .ok (.iload_n 1, 1) := by decide +kernel
theorem d_La_told_4 : decode b_La_told 4 = .ok (.iload_n 2, 1) := by decide +kernel
theorem d_La_told_5 : decode b_La_told 5 = .ok (.invokevirtual 69, 3) := by decide +kernel
theorem d_La_told_8 : decode b_La_told 8 = .ok (.i2l, 1) := by decide +kernel
theorem d_La_told_9 : decode b_La_told 9 = .ok (.lastore, 1) := by decide +kernel
theorem d_La_told_10 : decode b_La_told 10 = .ok (.goto 7, 3) := by decide +kernel
theorem d_La_told_13 : decode b_La_told 13 = .ok (.astore 4, 2) := by decide +kernel
theorem d_La_told_15 : decode b_La_told 15 = .ok (.iconst 1, 1) := by decide +kernel
theorem d_La_told_16 : decode b_La_told 16 = .ok (.ireturn, 1) := by decide +kernel
theorem d_La_told_17 : decode b_La_told 17 = .ok (.iconst 0, 1) := by decide +kernel
theorem d_La_told_18 : decode b_La_told 18 = .ok (.ireturn, 1) := by decide +kernel
theorem d_La_author_0 : decode b_La_author 0 = .ok (.aload_n 2, 1) := by decide +kernel
theorem d_La_author_1 : decode b_La_author 1 = .ok (.iconst 0, 1) := by decide +kernel
theorem d_La_author_2 : decode b_La_author 2 = .ok (.aload_n 0, 1) := by decide +kernel
theorem d_La_author_3 : decode b_La_author 3 = .ok (.iload_n 1, 1) := by decide +kernel
theorem d_La_author_4 : decode b_La_author 4 = .ok (.invokevirtual 72, 3) := by decide +kernel
theorem d_La_author_7 : decode b_La_author 7 = .ok (.i2l, 1) := by decide +kernel
theorem d_La_author_8 : decode b_La_author 8 = .ok (.lastore, 1) := by decide +kernel
theorem d_La_author_9 : decode b_La_author 9 = .ok (.goto 6, 3) := by decide +kernel
theorem d_La_author_12 : decode b_La_author 12 = .ok (.astore_n 3, 1) := by decide +kernel
theorem d_La_author_13 : decode b_La_author 13 = .ok (.iconst 1, 1) := by decide +kernel
theorem d_La_author_14 : decode b_La_author 14 = .ok (.ireturn, 1) := by decide +kernel
theorem d_La_author_15 : decode b_La_author 15 = .ok (.iconst 0, 1) := by decide +kernel
theorem d_La_author_16 : decode b_La_author 16 = .ok (.ireturn, 1) := by decide +kernel
theorem d_La_count_0 : decode b_La_count 0 = .ok (.aload_n 2, 1) := by decide +kernel
theorem d_La_count_1 : decode b_La_count 1 = .ok (.iconst 0, 1) := by decide +kernel
theorem d_La_count_2 : decode b_La_count 2 = .ok (.aload_n 0, 1) := by decide +kernel
theorem d_La_count_3 : decode b_La_count 3 = .ok (.iload_n 1, 1) := by decide +kernel
theorem d_La_count_4 : decode b_La_count 4 = .ok (.invokevirtual 75, 3) := by decide +kernel
theorem d_La_count_7 : decode b_La_count 7 = .ok (.i2l, 1) := by decide +kernel
theorem d_La_count_8 : decode b_La_count 8 = .ok (.lastore, 1) := by decide +kernel
theorem d_La_count_9 : decode b_La_count 9 = .ok (.goto 6, 3) := by decide +kernel
theorem d_La_count_12 : decode b_La_count 12 = .ok (.astore_n 3, 1) := by decide +kernel
theorem d_La_count_13 : decode b_La_count 13 = .ok (.iconst 1, 1) := by decide +kernel
theorem d_La_count_14 : decode b_La_count 14 = .ok (.ireturn, 1) := by decide +kernel
theorem d_La_count_15 : decode b_La_count 15 = .ok (.iconst 0, 1) := by decide +kernel
theorem d_La_count_16 : decode b_La_count 16 = .ok (.ireturn, 1) := by decide +kernel
theorem d_La_differs_0 : decode b_La_differs 0 = .ok (.aload 4, 2) := by decide +kernel
theorem d_La_differs_2 : decode b_La_differs 2 = .ok (.iconst 0, 1) := by decide +kernel
theorem d_La_differs_3 : decode b_La_differs 3 = .ok (.aload_n 0, 1) := by decide +kernel
theorem d_La_differs_4 : decode b_La_differs 4 = .ok (.iload_n 1, 1) := by decide +kernel
theorem d_La_differs_5 : decode b_La_differs 5 = .ok (.iload_n 2, 1) := by decide +kernel
theorem d_La_differs_6 : decode b_La_differs 6 = .ok (.iload_n 3, 1) := by decide +kernel
theorem d_La_differs_7 : decode b_La_differs 7 = .ok (.invokevirtual 78, 3) := by decide +kernel
theorem d_La_differs_10 : decode b_La_differs 10 = .ok (.i2l, 1) := by decide +kernel
theorem d_La_differs_11 : decode b_La_differs 11 = .ok (.lastore, 1) := by decide +kernel
theorem d_La_differs_12 : decode b_La_differs 12 = .ok (.goto 7, 3) := by decide +kernel
theorem d_La_differs_15 : decode b_La_differs 15 = .ok (.astore 5, 2) := by decide +kernel
theorem d_La_differs_17 : decode b_La_differs 17 = .ok (.iconst 1, 1) := by decide +kernel
theorem d_La_differs_18 : decode b_La_differs 18 = .ok (.ireturn, 1) := by decide +kernel
theorem d_La_differs_19 : decode b_La_differs 19 = .ok (.iconst 0, 1) := by decide +kernel
theorem d_La_differs_20 : decode b_La_differs 20 = .ok (.ireturn, 1) := by decide +kernel
theorem d_La_broken_0 : decode b_La_broken 0 = .ok (.aload_n 3, 1) := by decide +kernel
theorem d_La_broken_1 : decode b_La_broken 1 = .ok (.iconst 0, 1) := by decide +kernel
theorem d_La_broken_2 : decode b_La_broken 2 = .ok (.aload_n 0, 1) := by decide +kernel
theorem d_La_broken_3 : decode b_La_broken 3 = .ok (.iload_n 1, 1) := by decide +kernel
theorem d_La_broken_4 : decode b_La_broken 4 = .ok (.iload_n 2, 1) := by decide +kernel
theorem d_La_broken_5 : decode b_La_broken 5 = .ok (.invokevirtual 81, 3) := by decide +kernel
theorem d_La_broken_8 : decode b_La_broken 8 = .ok (.i2l, 1) := by decide +kernel
theorem d_La_broken_9 : decode b_La_broken 9 = .ok (.lastore, 1) := by decide +kernel
theorem d_La_broken_10 : decode b_La_broken 10 = .ok (.goto 7, 3) := by decide +kernel
theorem d_La_broken_13 : decode b_La_broken 13 = .ok (.astore 4, 2) := by decide +kernel
theorem d_La_broken_15 : decode b_La_broken 15 = .ok (.iconst 1, 1) := by decide +kernel
theorem d_La_broken_16 : decode b_La_broken 16 = .ok (.ireturn, 1) := by decide +kernel
theorem d_La_broken_17 : decode b_La_broken 17 = .ok (.iconst 0, 1) := by decide +kernel
theorem d_La_broken_18 : decode b_La_broken 18 = .ok (.ireturn, 1) := by decide +kernel
