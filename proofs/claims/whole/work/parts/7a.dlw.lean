theorem dL_register_0 : decode cL_register 0 = .ok (.aload_n 2, 1) := by decide +kernel
theorem dL_register_1 : decode cL_register 1 = .ok (.iconst 0, 1) := by decide +kernel
theorem dL_register_2 : decode cL_register 2 = .ok (.aload_n 0, 1) := by decide +kernel
theorem dL_register_3 : decode cL_register 3 = .ok (.iload_n 1, 1) := by decide +kernel
theorem dL_register_4 : decode cL_register 4 = .ok (.invokevirtual 7, 3) := by decide +kernel
theorem dL_register_7 : decode cL_register 7 = .ok (.i2l, 1) := by decide +kernel
theorem dL_register_8 : decode cL_register 8 = .ok (.lastore, 1) := by decide +kernel
theorem dL_register_9 : decode cL_register 9 = .ok (.goto 6, 3) := by decide +kernel
theorem dL_register_12 : decode cL_register 12 = .ok (.astore_n 3, 1) := by decide +kernel
theorem dL_register_13 : decode cL_register 13 = .ok (.iconst 1, 1) := by decide +kernel
theorem dL_register_14 : decode cL_register 14 = .ok (.ireturn, 1) := by decide +kernel
theorem dL_register_15 : decode cL_register 15 = .ok (.iconst 0, 1) := by decide +kernel
theorem dL_register_16 : decode cL_register 16 = .ok (.ireturn, 1) := by decide +kernel
theorem dL_count_0 : decode cL_count 0 = .ok (.aload_n 2, 1) := by decide +kernel
theorem dL_count_1 : decode cL_count 1 = .ok (.iconst 0, 1) := by decide +kernel
theorem dL_count_2 : decode cL_count 2 = .ok (.aload_n 0, 1) := by decide +kernel
theorem dL_count_3 : decode cL_count 3 = .ok (.iload_n 1, 1) := by decide +kernel
theorem dL_count_4 : decode cL_count 4 = .ok (.invokevirtual 15, 3) := by decide +kernel
theorem dL_count_7 : decode cL_count 7 = .ok (.i2l, 1) := by decide +kernel
theorem dL_count_8 : decode cL_count 8 = .ok (.lastore, 1) := by decide +kernel
theorem dL_count_9 : decode cL_count 9 = .ok (.goto 6, 3) := by decide +kernel
theorem dL_count_12 : decode cL_count 12 = .ok (.astore_n 3, 1) := by decide +kernel
theorem dL_count_13 : decode cL_count 13 = .ok (.iconst 1, 1) := by decide +kernel
theorem dL_count_14 : decode cL_count 14 = .ok (.ireturn, 1) := by decide +kernel
theorem dL_count_15 : decode cL_count 15 = .ok (.iconst 0, 1) := by decide +kernel
theorem dL_count_16 : decode cL_count 16 = .ok (.ireturn, 1) := by decide +kernel
theorem dL_mark_0 : decode cL_mark 0 = .ok (.aload_n 3, 1) := by decide +kernel
theorem dL_mark_1 : decode cL_mark 1 = .ok (.iconst 0, 1) := by decide +kernel
theorem dL_mark_2 : decode cL_mark 2 = .ok (.aload_n 0, 1) := by decide +kernel
theorem dL_mark_3 : decode cL_mark 3 = .ok (.iload_n 1, 1) := by decide +kernel
theorem dL_mark_4 : decode cL_mark 4 = .ok (.iload_n 2, 1) := by decide +kernel
theorem dL_mark_5 : decode cL_mark 5 = .ok (.invokevirtual 20, 3) := by decide +kernel
theorem dL_mark_8 : decode cL_mark 8 = .ok (.i2l, 1) := by decide +kernel
theorem dL_mark_9 : decode cL_mark 9 = .ok (.lastore, 1) := by decide +kernel
theorem dL_mark_10 : decode cL_mark 10 = .ok (.goto 7, 3) := by decide +kernel
theorem dL_mark_13 : decode cL_mark 13 = .ok (.astore 4, 2) := by decide +kernel
theorem dL_mark_15 : decode cL_mark 15 = .ok (.iconst 1, 1) := by decide +kernel
theorem dL_mark_16 : decode cL_mark 16 = .ok (.ireturn, 1) := by decide +kernel
theorem dL_mark_17 : decode cL_mark 17 = .ok (.iconst 0, 1) := by decide +kernel
theorem dL_mark_18 : decode cL_mark 18 = .ok (.ireturn, 1) := by decide +kernel
theorem dL_letter_0 : decode cL_letter 0 = .ok (.aload 4, 2) := by decide +kernel
theorem dL_letter_2 : decode cL_letter 2 = .ok (.iconst 0, 1) := by decide +kernel
theorem dL_letter_3 : decode cL_letter 3 = .ok (.aload_n 0, 1) := by decide +kernel
theorem dL_letter_4 : decode cL_letter 4 = .ok (.iload_n 1, 1) := by decide +kernel
theorem dL_letter_5 : decode cL_letter 5 = .ok (.iload_n 2, 1) := by decide +kernel
theorem dL_letter_6 : decode cL_letter 6 = .ok (.iload_n 3, 1) := by decide +kernel
theorem dL_letter_7 : decode cL_letter 7 = .ok (.invokevirtual 24, 3) := by decide +kernel
theorem dL_letter_10 : decode cL_letter 10 = .ok (.i2l, 1) := by decide +kernel
theorem dL_letter_11 : decode cL_letter 11 = .ok (.lastore, 1) := by decide +kernel
theorem dL_letter_12 : decode cL_letter 12 = .ok (.goto 7, 3) := by decide +kernel
theorem dL_letter_15 : decode cL_letter 15 = .ok (.astore 5, 2) := by decide +kernel
theorem dL_letter_17 : decode cL_letter 17 = .ok (.iconst 1, 1) := by decide +kernel
theorem dL_letter_18 : decode cL_letter 18 = .ok (.ireturn, 1) := by decide +kernel
theorem dL_letter_19 : decode cL_letter 19 = .ok (.iconst 0, 1) := by decide +kernel
theorem dL_letter_20 : decode cL_letter 20 = .ok (.ireturn, 1) := by decide +kernel
theorem dL_used_0 : decode cL_used 0 = .ok (.aload 4, 2) := by decide +kernel
theorem dL_used_2 : decode cL_used 2 = .ok (.iconst 0, 1) := by decide +kernel
theorem dL_used_3 : decode cL_used 3 = .ok (.aload_n 0, 1) := by decide +kernel
theorem dL_used_4 : decode cL_used 4 = .ok (.iload_n 1, 1) := by decide +kernel
theorem dL_used_5 : decode cL_used 5 = .ok (.iload_n 2, 1) := by decide +kernel
theorem dL_used_6 : decode cL_used 6 = .ok (.iload_n 3, 1) := by decide +kernel
theorem dL_used_7 : decode cL_used 7 = .ok (.invokevirtual 28, 3) := by decide +kernel
theorem dL_used_10 : decode cL_used 10 = .ok (.i2l, 1) := by decide +kernel
theorem dL_used_11 : decode cL_used 11 = .ok (.lastore, 1) := by decide +kernel
theorem dL_used_12 : decode cL_used 12 = .ok (.goto 7, 3) := by decide +kernel
theorem dL_used_15 : decode cL_used 15 = .ok (.astore 5, 2) := by decide +kernel
theorem dL_used_17 : decode cL_used 17 = .ok (.iconst 1, 1) := by decide +kernel
theorem dL_used_18 : decode cL_used 18 = .ok (.ireturn, 1) := by decide +kernel
theorem dL_used_19 : decode cL_used 19 = .ok (.iconst 0, 1) := by decide +kernel
theorem dL_used_20 : decode cL_used 20 = .ok (.ireturn, 1) := by decide +kernel
theorem dL_two_0 : decode cL_two 0 = .ok (.aload 4, 2) := by decide +kernel
theorem dL_two_2 : decode cL_two 2 = .ok (.iconst 0, 1) := by decide +kernel
theorem dL_two_3 : decode cL_two 3 = .ok (.aload_n 0, 1) := by decide +kernel
theorem dL_two_4 : decode cL_two 4 = .ok (.iload_n 1, 1) := by decide +kernel
theorem dL_two_5 : decode cL_two 5 = .ok (.iload_n 2, 1) := by decide +kernel
theorem dL_two_6 : decode cL_two 6 = .ok (.iload_n 3, 1) := by decide +kernel
theorem dL_two_7 : decode cL_two 7 = .ok (.invokevirtual 32, 3) := by decide +kernel
theorem dL_two_10 : decode cL_two 10 = .ok (.i2l, 1) := by decide +kernel
theorem dL_two_11 : decode cL_two 11 = .ok (.lastore, 1) := by decide +kernel
theorem dL_two_12 : decode cL_two 12 = .ok (.goto 7, 3) := by decide +kernel
theorem dL_two_15 : decode cL_two 15 = .ok (.astore 5, 2) := by decide +kernel
theorem dL_two_17 : decode cL_two 17 = .ok (.iconst 1, 1) := by decide +kernel
theorem dL_two_18 : decode cL_two 18 = .ok (.ireturn, 1) := by decide +kernel
theorem dL_two_19 : decode cL_two 19 = .ok (.iconst 0, 1) := by decide +kernel
theorem dL_two_20 : decode cL_two 20 = .ok (.ireturn, 1) := by decide +kernel
theorem dL_steps_0 : decode cL_steps 0 = .ok (.aload_n 3, 1) := by decide +kernel
theorem dL_steps_1 : decode cL_steps 1 = .ok (.iconst 0, 1) := by decide +kernel
theorem dL_steps_2 : decode cL_steps 2 = .ok (.aload_n 0, 1) := by decide +kernel
theorem dL_steps_3 : decode cL_steps 3 = .ok (.iload_n 1, 1) := by decide +kernel
theorem dL_steps_4 : decode cL_steps 4 = .ok (.iload_n 2, 1) := by decide +kernel
theorem dL_steps_5 : decode cL_steps 5 = .ok (.invokevirtual 35, 3) := by decide +kernel
theorem dL_steps_8 : decode cL_steps 8 = .ok (.i2l, 1) := by decide +kernel
theorem dL_steps_9 : decode cL_steps 9 = .ok (.lastore, 1) := by decide +kernel
theorem dL_steps_10 : decode cL_steps 10 = .ok (.goto 7, 3) := by decide +kernel
theorem dL_steps_13 : decode cL_steps 13 = .ok (.astore 4, 2) := by decide +kernel
theorem dL_steps_15 : decode cL_steps 15 = .ok (.iconst 1, 1) := by decide +kernel
theorem dL_steps_16 : decode cL_steps 16 = .ok (.ireturn, 1) := by decide +kernel
theorem dL_steps_17 : decode cL_steps 17 = .ok (.iconst 0, 1) := by decide +kernel
theorem dL_steps_18 : decode cL_steps 18 = .ok (.ireturn, 1) := by decide +kernel
theorem dL_here_0 : decode cL_here 0 = .ok (.aload 5, 2) := by decide +kernel
theorem dL_here_2 : decode cL_here 2 = .ok (.iconst 0, 1) := by decide +kernel
theorem dL_here_3 : decode cL_here 3 = .ok (.aload_n 0, 1) := by decide +kernel
theorem dL_here_4 : decode cL_here 4 = .ok (.iload_n 1, 1) := by decide +kernel
theorem dL_here_5 : decode cL_here 5 = .ok (.iload_n 2, 1) := by decide +kernel
theorem dL_here_6 : decode cL_here 6 = .ok (.iload_n 3, 1) := by decide +kernel
theorem dL_here_7 : decode cL_here 7 = .ok (.iload 4, 2) := by decide +kernel
theorem dL_here_9 : decode cL_here 9 = .ok (.invokevirtual 38, 3) := by decide +kernel
theorem dL_here_12 : decode cL_here 12 = .ok (.i2l, 1) := by decide +kernel
theorem dL_here_13 : decode cL_here 13 = .ok (.lastore, 1) := by decide +kernel
theorem dL_here_14 : decode cL_here 14 = .ok (.goto 11, 3) := by decide +kernel
theorem dL_here_17 : decode cL_here 17 = .ok (.astore 6, 2) := by decide +kernel
theorem dL_here_19 : decode cL_here 19 = .ok (.iconst 1, 1) := by decide +kernel
theorem dL_here_20 : decode cL_here 20 = .ok (.ireturn, 1) := by decide +kernel
theorem dL_here_21 : decode cL_here 21 = .ok (.astore 6, 2) := by decide +kernel
theorem dL_here_23 : decode cL_here 23 = .ok (.iconst 2, 1) := by decide +kernel
theorem dL_here_24 : decode cL_here 24 = .ok (.ireturn, 1) := by decide +kernel
theorem dL_here_25 : decode cL_here 25 = .ok (.iconst 0, 1) := by decide +kernel
theorem dL_here_26 : decode cL_here 26 = .ok (.ireturn, 1) := by decide +kernel
theorem dL_halves_0 : decode cL_halves 0 = .ok (.aload 4, 2) := by decide +kernel
theorem dL_halves_2 : decode cL_halves 2 = .ok (.iconst 0, 1) := by decide +kernel
theorem dL_halves_3 : decode cL_halves 3 = .ok (.aload_n 0, 1) := by decide +kernel
theorem dL_halves_4 : decode cL_halves 4 = .ok (.iload_n 1, 1) := by decide +kernel
theorem dL_halves_5 : decode cL_halves 5 = .ok (.iload_n 2, 1) := by decide +kernel
theorem dL_halves_6 : decode cL_halves 6 = .ok (.iload_n 3, 1) := by decide +kernel
theorem dL_halves_7 : decode cL_halves 7 = .ok (.invokevirtual 42, 3) := by decide +kernel
theorem dL_halves_10 : decode cL_halves 10 = .ok (.i2l, 1) := by decide +kernel
theorem dL_halves_11 : decode cL_halves 11 = .ok (.lastore, 1) := by decide +kernel
theorem dL_halves_12 : decode cL_halves 12 = .ok (.goto 11, 3) := by decide +kernel
theorem dL_halves_15 : decode cL_halves 15 = .ok (.astore 5, 2) := by decide +kernel
theorem dL_halves_17 : decode cL_halves 17 = .ok (.iconst 1, 1) := by decide +kernel
theorem dL_halves_18 : decode cL_halves 18 = .ok (.ireturn, 1) := by decide +kernel
theorem dL_halves_19 : decode cL_halves 19 = .ok (.astore 5, 2) := by decide +kernel
theorem dL_halves_21 : decode cL_halves 21 = .ok (.iconst 2, 1) := by decide +kernel
theorem dL_halves_22 : decode cL_halves 22 = .ok (.ireturn, 1) := by decide +kernel
theorem dL_halves_23 : decode cL_halves 23 = .ok (.iconst 0, 1) := by decide +kernel
theorem dL_halves_24 : decode cL_halves 24 = .ok (.ireturn, 1) := by decide +kernel
theorem dL_holders_0 : decode cL_holders 0 = .ok (.aload_n 3, 1) := by decide +kernel
theorem dL_holders_1 : decode cL_holders 1 = .ok (.iconst 0, 1) := by decide +kernel
theorem dL_holders_2 : decode cL_holders 2 = .ok (.aload_n 0, 1) := by decide +kernel
theorem dL_holders_3 : decode cL_holders 3 = .ok (.iload_n 1, 1) := by decide +kernel
theorem dL_holders_4 : decode cL_holders 4 = .ok (.iload_n 2, 1) := by decide +kernel
theorem dL_holders_5 : decode cL_holders 5 = .ok (.invokevirtual 45, 3) := by decide +kernel
theorem dL_holders_8 : decode cL_holders 8 = .ok (.i2l, 1) := by decide +kernel
theorem dL_holders_9 : decode cL_holders 9 = .ok (.lastore, 1) := by decide +kernel
theorem dL_holders_10 : decode cL_holders 10 = .ok (.goto 11, 3) := by decide +kernel
theorem dL_holders_13 : decode cL_holders 13 = .ok (.astore 4, 2) := by decide +kernel
theorem dL_holders_15 : decode cL_holders 15 = .ok (.iconst 1, 1) := by decide +kernel
theorem dL_holders_16 : decode cL_holders 16 = .ok (.ireturn, 1) := by decide +kernel
theorem dL_holders_17 : decode cL_holders 17 = .ok (.astore 4, 2) := by decide +kernel
theorem dL_holders_19 : decode cL_holders 19 = .ok (.iconst 2, 1) := by decide +kernel
theorem dL_holders_20 : decode cL_holders 20 = .ok (.ireturn, 1) := by decide +kernel
theorem dL_holders_21 : decode cL_holders 21 = .ok (.iconst 0, 1) := by decide +kernel
theorem dL_holders_22 : decode cL_holders 22 = .ok (.ireturn, 1) := by decide +kernel
theorem dL_shared_0 : decode cL_shared 0 = .ok (.aload_n 2, 1) := by decide +kernel
theorem dL_shared_1 : decode cL_shared 1 = .ok (.iconst 0, 1) := by decide +kernel
theorem dL_shared_2 : decode cL_shared 2 = .ok (.aload_n 0, 1) := by decide +kernel
theorem dL_shared_3 : decode cL_shared 3 = .ok (.iload_n 1, 1) := by decide +kernel
theorem dL_shared_4 : decode cL_shared 4 = .ok (.invokevirtual 48, 3) := by decide +kernel
theorem dL_shared_7 : decode cL_shared 7 = .ok (.i2l, 1) := by decide +kernel
theorem dL_shared_8 : decode cL_shared 8 = .ok (.lastore, 1) := by decide +kernel
theorem dL_shared_9 : decode cL_shared 9 = .ok (.goto 6, 3) := by decide +kernel
theorem dL_shared_12 : decode cL_shared 12 = .ok (.astore_n 3, 1) := by decide +kernel
theorem dL_shared_13 : decode cL_shared 13 = .ok (.iconst 1, 1) := by decide +kernel
theorem dL_shared_14 : decode cL_shared 14 = .ok (.ireturn, 1) := by decide +kernel
theorem dL_shared_15 : decode cL_shared 15 = .ok (.iconst 0, 1) := by decide +kernel
theorem dL_shared_16 : decode cL_shared 16 = .ok (.ireturn, 1) := by decide +kernel
theorem dL_refused_0 : decode cL_refused 0 = .ok (.aload_n 3, 1) := by decide +kernel
theorem dL_refused_1 : decode cL_refused 1 = .ok (.iconst 0, 1) := by decide +kernel
theorem dL_refused_2 : decode cL_refused 2 = .ok (.aload_n 0, 1) := by decide +kernel
theorem dL_refused_3 : decode cL_refused 3 = .ok (.iload_n 1, 1) := by decide +kernel
theorem dL_refused_4 : decode cL_refused 4 = .ok (.iload_n 2, 1) := by decide +kernel
theorem dL_refused_5 : decode cL_refused 5 = .ok (.invokevirtual 51, 3) := by decide +kernel
theorem dL_refused_8 : decode cL_refused 8 = .ok (.i2l, 1) := by decide +kernel
theorem dL_refused_9 : decode cL_refused 9 = .ok (.lastore, 1) := by decide +kernel
theorem dL_refused_10 : decode cL_refused 10 = .ok (.goto 11, 3) := by decide +kernel
theorem dL_refused_13 : decode cL_refused 13 = .ok (.astore 4, 2) := by decide +kernel
theorem dL_refused_15 : decode cL_refused 15 = .ok (.iconst 1, 1) := by decide +kernel
theorem dL_refused_16 : decode cL_refused 16 = .ok (.ireturn, 1) := by decide +kernel
theorem dL_refused_17 : decode cL_refused 17 = .ok (.astore 4, 2) := by decide +kernel
theorem dL_refused_19 : decode cL_refused 19 = .ok (.iconst 2, 1) := by decide +kernel
theorem dL_refused_20 : decode cL_refused 20 = .ok (.ireturn, 1) := by decide +kernel
theorem dL_refused_21 : decode cL_refused 21 = .ok (.iconst 0, 1) := by decide +kernel
theorem dL_refused_22 : decode cL_refused 22 = .ok (.ireturn, 1) := by decide +kernel
theorem dL_firstDay_0 : decode cL_firstDay 0 = .ok (.aload_n 3, 1) := by decide +kernel
theorem dL_firstDay_1 : decode cL_firstDay 1 = .ok (.iconst 0, 1) := by decide +kernel
theorem dL_firstDay_2 : decode cL_firstDay 2 = .ok (.aload_n 0, 1) := by decide +kernel
theorem dL_firstDay_3 : decode cL_firstDay 3 = .ok (.iload_n 1, 1) := by decide +kernel
theorem dL_firstDay_4 : decode cL_firstDay 4 = .ok (.iload_n 2, 1) := by decide +kernel
theorem dL_firstDay_5 : decode cL_firstDay 5 = .ok (.invokevirtual 54, 3) := by decide +kernel
theorem dL_firstDay_8 : decode cL_firstDay 8 = .ok (.i2l, 1) := by decide +kernel
theorem dL_firstDay_9 : decode cL_firstDay 9 = .ok (.lastore, 1) := by decide +kernel
theorem dL_firstDay_10 : decode cL_firstDay 10 = .ok (.goto 7, 3) := by decide +kernel
theorem dL_firstDay_13 : decode cL_firstDay 13 = .ok (.astore 4, 2) := by decide +kernel
theorem dL_firstDay_15 : decode cL_firstDay 15 = .ok (.iconst 1, 1) := by decide +kernel
theorem dL_firstDay_16 : decode cL_firstDay 16 = .ok (.ireturn, 1) := by decide +kernel
theorem dL_firstDay_17 : decode cL_firstDay 17 = .ok (.iconst 0, 1) := by decide +kernel
theorem dL_firstDay_18 : decode cL_firstDay 18 = .ok (.ireturn, 1) := by decide +kernel
theorem dL_would_0 : decode cL_would 0 = .ok (.aload 5, 2) := by decide +kernel
theorem dL_would_2 : decode cL_would 2 = .ok (.iconst 0, 1) := by decide +kernel
theorem dL_would_3 : decode cL_would 3 = .ok (.aload_n 0, 1) := by decide +kernel
theorem dL_would_4 : decode cL_would 4 = .ok (.iload_n 1, 1) := by decide +kernel
theorem dL_would_5 : decode cL_would 5 = .ok (.iload_n 2, 1) := by decide +kernel
theorem dL_would_6 : decode cL_would 6 = .ok (.iload_n 3, 1) := by decide +kernel
theorem dL_would_7 : decode cL_would 7 = .ok (.iload 4, 2) := by decide +kernel
theorem dL_would_9 : decode cL_would 9 = .ok (.invokevirtual 57, 3) := by decide +kernel
theorem dL_would_12 : decode cL_would 12 = .ok (.i2l, 1) := by decide +kernel
theorem dL_would_13 : decode cL_would 13 = .ok (.lastore, 1) := by decide +kernel
theorem dL_would_14 : decode cL_would 14 = .ok (.goto 11, 3) := by decide +kernel
theorem dL_would_17 : decode cL_would 17 = .ok (.astore 6, 2) := by decide +kernel
theorem dL_would_19 : decode cL_would 19 = .ok (.iconst 1, 1) := by decide +kernel
theorem dL_would_20 : decode cL_would 20 = .ok (.ireturn, 1) := by decide +kernel
theorem dL_would_21 : decode cL_would 21 = .ok (.astore 6, 2) := by decide +kernel
theorem dL_would_23 : decode cL_would 23 = .ok (.iconst 2, 1) := by decide +kernel
theorem dL_would_24 : decode cL_would 24 = .ok (.ireturn, 1) := by decide +kernel
theorem dL_would_25 : decode cL_would 25 = .ok (.iconst 0, 1) := by decide +kernel
theorem dL_would_26 : decode cL_would 26 = .ok (.ireturn, 1) := by decide +kernel
theorem dL_free_0 : decode cL_free 0 = .ok (.aload_n 3, 1) := by decide +kernel
theorem dL_free_1 : decode cL_free 1 = .ok (.iconst 0, 1) := by decide +kernel
theorem dL_free_2 : decode cL_free 2 = .ok (.aload_n 0, 1) := by decide +kernel
theorem dL_free_3 : decode cL_free 3 = .ok (.iload_n 1, 1) := by decide +kernel
theorem dL_free_4 : decode cL_free 4 = .ok (.iload_n 2, 1) := by decide +kernel
theorem dL_free_5 : decode cL_free 5 = .ok (.invokevirtual 60, 3) := by decide +kernel
theorem dL_free_8 : decode cL_free 8 = .ok (.i2l, 1) := by decide +kernel
theorem dL_free_9 : decode cL_free 9 = .ok (.lastore, 1) := by decide +kernel
theorem dL_free_10 : decode cL_free 10 = .ok (.goto 7, 3) := by decide +kernel
theorem dL_free_13 : decode cL_free 13 = .ok (.astore 4, 2) := by decide +kernel
theorem dL_free_15 : decode cL_free 15 = .ok (.iconst 1, 1) := by decide +kernel
theorem dL_free_16 : decode cL_free 16 = .ok (.ireturn, 1) := by decide +kernel
theorem dL_free_17 : decode cL_free 17 = .ok (.iconst 0, 1) := by decide +kernel
theorem dL_free_18 : decode cL_free 18 = .ok (.ireturn, 1) := by decide +kernel
theorem dL_letterFor_0 : decode cL_letterFor 0 = .ok (.aload_n 3, 1) := by decide +kernel
theorem dL_letterFor_1 : decode cL_letterFor 1 = .ok (.iconst 0, 1) := by decide +kernel
theorem dL_letterFor_2 : decode cL_letterFor 2 = .ok (.aload_n 0, 1) := by decide +kernel
theorem dL_letterFor_3 : decode cL_letterFor 3 = .ok (.iload_n 1, 1) := by decide +kernel
theorem dL_letterFor_4 : decode cL_letterFor 4 = .ok (.iload_n 2, 1) := by decide +kernel
theorem dL_letterFor_5 : decode cL_letterFor 5 = .ok (.invokevirtual 63, 3) := by decide +kernel
theorem dL_letterFor_8 : decode cL_letterFor 8 = .ok (.i2l, 1) := by decide +kernel
theorem dL_letterFor_9 : decode cL_letterFor 9 = .ok (.lastore, 1) := by decide +kernel
theorem dL_letterFor_10 : decode cL_letterFor 10 = .ok (.goto 11, 3) := by decide +kernel
theorem dL_letterFor_13 : decode cL_letterFor 13 = .ok (.astore 4, 2) := by decide +kernel
theorem dL_letterFor_15 : decode cL_letterFor 15 = .ok (.iconst 1, 1) := by decide +kernel
theorem dL_letterFor_16 : decode cL_letterFor 16 = .ok (.ireturn, 1) := by decide +kernel
theorem dL_letterFor_17 : decode cL_letterFor 17 = .ok (.astore 4, 2) := by decide +kernel
theorem dL_letterFor_19 : decode cL_letterFor 19 = .ok (.iconst 2, 1) := by decide +kernel
theorem dL_letterFor_20 : decode cL_letterFor 20 = .ok (.ireturn, 1) := by decide +kernel
theorem dL_letterFor_21 : decode cL_letterFor 21 = .ok (.iconst 0, 1) := by decide +kernel
theorem dL_letterFor_22 : decode cL_letterFor 22 = .ok (.ireturn, 1) := by decide +kernel
theorem dL_group_0 : decode cL_group 0 = .ok (.aload_n 2, 1) := by decide +kernel
theorem dL_group_1 : decode cL_group 1 = .ok (.iconst 0, 1) := by decide +kernel
theorem dL_group_2 : decode cL_group 2 = .ok (.aload_n 0, 1) := by decide +kernel
theorem dL_group_3 : decode cL_group 3 = .ok (.iload_n 1, 1) := by decide +kernel
theorem dL_group_4 : decode cL_group 4 = .ok (.invokevirtual 66, 3) := by decide +kernel
theorem dL_group_7 : decode cL_group 7 = .ok (.i2l, 1) := by decide +kernel
theorem dL_group_8 : decode cL_group 8 = .ok (.lastore, 1) := by decide +kernel
theorem dL_group_9 : decode cL_group 9 = .ok (.goto 6, 3) := by decide +kernel
theorem dL_group_12 : decode cL_group 12 = .ok (.astore_n 3, 1) := by decide +kernel
theorem dL_group_13 : decode cL_group 13 = .ok (.iconst 1, 1) := by decide +kernel
theorem dL_group_14 : decode cL_group 14 = .ok (.ireturn, 1) := by decide +kernel
theorem dL_group_15 : decode cL_group 15 = .ok (.iconst 0, 1) := by decide +kernel
theorem dL_group_16 : decode cL_group 16 = .ok (.ireturn, 1) := by decide +kernel
theorem dL_ranked_0 : decode cL_ranked 0 = .ok (.aload 4, 2) := by decide +kernel
theorem dL_ranked_2 : decode cL_ranked 2 = .ok (.iconst 0, 1) := by decide +kernel
theorem dL_ranked_3 : decode cL_ranked 3 = .ok (.aload_n 0, 1) := by decide +kernel
theorem dL_ranked_4 : decode cL_ranked 4 = .ok (.iload_n 1, 1) := by decide +kernel
theorem dL_ranked_5 : decode cL_ranked 5 = .ok (.iload_n 2, 1) := by decide +kernel
theorem dL_ranked_6 : decode cL_ranked 6 = .ok (.iload_n 3, 1) := by decide +kernel
theorem dL_ranked_7 : decode cL_ranked 7 = .ok (.invokevirtual 69, 3) := by decide +kernel
theorem dL_ranked_10 : decode cL_ranked 10 = .ok (.i2l, 1) := by decide +kernel
theorem dL_ranked_11 : decode cL_ranked 11 = .ok (.lastore, 1) := by decide +kernel
theorem dL_ranked_12 : decode cL_ranked 12 = .ok (.goto 11, 3) := by decide +kernel
theorem dL_ranked_15 : decode cL_ranked 15 = .ok (.astore 5, 2) := by decide +kernel
theorem dL_ranked_17 : decode cL_ranked 17 = .ok (.iconst 1, 1) := by decide +kernel
theorem dL_ranked_18 : decode cL_ranked 18 = .ok (.ireturn, 1) := by decide +kernel
theorem dL_ranked_19 : decode cL_ranked 19 = .ok (.astore 5, 2) := by decide +kernel
theorem dL_ranked_21 : decode cL_ranked 21 = .ok (.iconst 2, 1) := by decide +kernel
theorem dL_ranked_22 : decode cL_ranked 22 = .ok (.ireturn, 1) := by decide +kernel
theorem dL_ranked_23 : decode cL_ranked 23 = .ok (.iconst 0, 1) := by decide +kernel
theorem dL_ranked_24 : decode cL_ranked 24 = .ok (.ireturn, 1) := by decide +kernel
theorem dL_file_0 : decode cL_file 0 = .ok (.aload 4, 2) := by decide +kernel
theorem dL_file_2 : decode cL_file 2 = .ok (.iconst 0, 1) := by decide +kernel
theorem dL_file_3 : decode cL_file 3 = .ok (.aload_n 0, 1) := by decide +kernel
theorem dL_file_4 : decode cL_file 4 = .ok (.iload_n 1, 1) := by decide +kernel
theorem dL_file_5 : decode cL_file 5 = .ok (.iload_n 2, 1) := by decide +kernel
theorem dL_file_6 : decode cL_file 6 = .ok (.iload_n 3, 1) := by decide +kernel
theorem dL_file_7 : decode cL_file 7 = .ok (.invokevirtual 72, 3) := by decide +kernel
theorem dL_file_10 : decode cL_file 10 = .ok (.i2l, 1) := by decide +kernel
theorem dL_file_11 : decode cL_file 11 = .ok (.lastore, 1) := by decide +kernel
theorem dL_file_12 : decode cL_file 12 = .ok (.goto 7, 3) := by decide +kernel
theorem dL_file_15 : decode cL_file 15 = .ok (.astore 5, 2) := by decide +kernel
theorem dL_file_17 : decode cL_file 17 = .ok (.iconst 1, 1) := by decide +kernel
theorem dL_file_18 : decode cL_file 18 = .ok (.ireturn, 1) := by decide +kernel
theorem dL_file_19 : decode cL_file 19 = .ok (.iconst 0, 1) := by decide +kernel
theorem dL_file_20 : decode cL_file 20 = .ok (.ireturn, 1) := by decide +kernel
theorem dL_use_0 : decode cL_use 0 = .ok (.aload 5, 2) := by decide +kernel
theorem dL_use_2 : decode cL_use 2 = .ok (.iconst 0, 1) := by decide +kernel
theorem dL_use_3 : decode cL_use 3 = .ok (.aload_n 0, 1) := by decide +kernel
theorem dL_use_4 : decode cL_use 4 = .ok (.iload_n 1, 1) := by decide +kernel
theorem dL_use_5 : decode cL_use 5 = .ok (.iload_n 2, 1) := by decide +kernel
theorem dL_use_6 : decode cL_use 6 = .ok (.iload_n 3, 1) := by decide +kernel
theorem dL_use_7 : decode cL_use 7 = .ok (.iload 4, 2) := by decide +kernel
theorem dL_use_9 : decode cL_use 9 = .ok (.invokevirtual 75, 3) := by decide +kernel
theorem dL_use_12 : decode cL_use 12 = .ok (.i2l, 1) := by decide +kernel
theorem dL_use_13 : decode cL_use 13 = .ok (.lastore, 1) := by decide +kernel
theorem dL_use_14 : decode cL_use 14 = .ok (.goto 11, 3) := by decide +kernel
theorem dL_use_17 : decode cL_use 17 = .ok (.astore 6, 2) := by decide +kernel
theorem dL_use_19 : decode cL_use 19 = .ok (.iconst 1, 1) := by decide +kernel
theorem dL_use_20 : decode cL_use 20 = .ok (.ireturn, 1) := by decide +kernel
theorem dL_use_21 : decode cL_use 21 = .ok (.astore 6, 2) := by decide +kernel
theorem dL_use_23 : decode cL_use 23 = .ok (.iconst 2, 1) := by decide +kernel
theorem dL_use_24 : decode cL_use 24 = .ok (.ireturn, 1) := by decide +kernel
theorem dL_use_25 : decode cL_use 25 = .ok (.iconst 0, 1) := by decide +kernel
theorem dL_use_26 : decode cL_use 26 = .ok (.ireturn, 1) := by decide +kernel
theorem dL_consent_0 : decode cL_consent 0 = .ok (.aload 4, 2) := by decide +kernel
theorem dL_consent_2 : decode cL_consent 2 = .ok (.iconst 0, 1) := by decide +kernel
theorem dL_consent_3 : decode cL_consent 3 = .ok (.aload_n 0, 1) := by decide +kernel
theorem dL_consent_4 : decode cL_consent 4 = .ok (.iload_n 1, 1) := by decide +kernel
theorem dL_consent_5 : decode cL_consent 5 = .ok (.iload_n 2, 1) := by decide +kernel
theorem dL_consent_6 : decode cL_consent 6 = .ok (.iload_n 3, 1) := by decide +kernel
theorem dL_consent_7 : decode cL_consent 7 = .ok (.invokevirtual 78, 3) := by decide +kernel
theorem dL_consent_10 : decode cL_consent 10 = .ok (.ifCond .eq 7, 3) := by decide +kernel
theorem dL_consent_13 : decode cL_consent 13 = .ok (.lconst 1, 1) := by decide +kernel
theorem dL_consent_14 : decode cL_consent 14 = .ok (.goto 4, 3) := by decide +kernel
theorem dL_consent_17 : decode cL_consent 17 = .ok (.lconst 0, 1) := by decide +kernel
theorem dL_consent_18 : decode cL_consent 18 = .ok (.lastore, 1) := by decide +kernel
theorem dL_consent_19 : decode cL_consent 19 = .ok (.goto 7, 3) := by decide +kernel
theorem dL_consent_22 : decode cL_consent 22 = .ok (.astore 5, 2) := by decide +kernel
theorem dL_consent_24 : decode cL_consent 24 = .ok (.iconst 1, 1) := by decide +kernel
theorem dL_consent_25 : decode cL_consent 25 = .ok (.ireturn, 1) := by decide +kernel
theorem dL_consent_26 : decode cL_consent 26 = .ok (.iconst 0, 1) := by decide +kernel
theorem dL_consent_27 : decode cL_consent 27 = .ok (.ireturn, 1) := by decide +kernel
theorem dL_drop_0 : decode cL_drop 0 = .ok (.aload_n 2, 1) := by decide +kernel
theorem dL_drop_1 : decode cL_drop 1 = .ok (.iconst 0, 1) := by decide +kernel
theorem dL_drop_2 : decode cL_drop 2 = .ok (.aload_n 0, 1) := by decide +kernel
theorem dL_drop_3 : decode cL_drop 3 = .ok (.iload_n 1, 1) := by decide +kernel
theorem dL_drop_4 : decode cL_drop 4 = .ok (.invokevirtual 82, 3) := by decide +kernel
theorem dL_drop_7 : decode cL_drop 7 = .ok (.i2l, 1) := by decide +kernel
theorem dL_drop_8 : decode cL_drop 8 = .ok (.lastore, 1) := by decide +kernel
theorem dL_drop_9 : decode cL_drop 9 = .ok (.goto 6, 3) := by decide +kernel
theorem dL_drop_12 : decode cL_drop 12 = .ok (.astore_n 3, 1) := by decide +kernel
theorem dL_drop_13 : decode cL_drop 13 = .ok (.iconst 1, 1) := by decide +kernel
theorem dL_drop_14 : decode cL_drop 14 = .ok (.ireturn, 1) := by decide +kernel
theorem dL_drop_15 : decode cL_drop 15 = .ok (.iconst 0, 1) := by decide +kernel
theorem dL_drop_16 : decode cL_drop 16 = .ok (.ireturn, 1) := by decide +kernel
theorem dL_rule_0 : decode cL_rule 0 = .ok (.aload_n 3, 1) := by decide +kernel
theorem dL_rule_1 : decode cL_rule 1 = .ok (.iconst 0, 1) := by decide +kernel
theorem dL_rule_2 : decode cL_rule 2 = .ok (.aload_n 0, 1) := by decide +kernel
theorem dL_rule_3 : decode cL_rule 3 = .ok (.iload_n 1, 1) := by decide +kernel
theorem dL_rule_4 : decode cL_rule 4 = .ok (.iload_n 2, 1) := by decide +kernel
theorem dL_rule_5 : decode cL_rule 5 = .ok (.invokevirtual 85, 3) := by decide +kernel
theorem dL_rule_8 : decode cL_rule 8 = .ok (.i2l, 1) := by decide +kernel
theorem dL_rule_9 : decode cL_rule 9 = .ok (.lastore, 1) := by decide +kernel
theorem dL_rule_10 : decode cL_rule 10 = .ok (.goto 11, 3) := by decide +kernel
theorem dL_rule_13 : decode cL_rule 13 = .ok (.astore 4, 2) := by decide +kernel
theorem dL_rule_15 : decode cL_rule 15 = .ok (.iconst 1, 1) := by decide +kernel
theorem dL_rule_16 : decode cL_rule 16 = .ok (.ireturn, 1) := by decide +kernel
theorem dL_rule_17 : decode cL_rule 17 = .ok (.astore 4, 2) := by decide +kernel
theorem dL_rule_19 : decode cL_rule 19 = .ok (.iconst 2, 1) := by decide +kernel
theorem dL_rule_20 : decode cL_rule 20 = .ok (.ireturn, 1) := by decide +kernel
theorem dL_rule_21 : decode cL_rule 21 = .ok (.iconst 0, 1) := by decide +kernel
theorem dL_rule_22 : decode cL_rule 22 = .ok (.ireturn, 1) := by decide +kernel
theorem dL_near_0 : decode cL_near 0 = .ok (.aload 4, 2) := by decide +kernel
theorem dL_near_2 : decode cL_near 2 = .ok (.iconst 0, 1) := by decide +kernel
theorem dL_near_3 : decode cL_near 3 = .ok (.aload_n 0, 1) := by decide +kernel
theorem dL_near_4 : decode cL_near 4 = .ok (.iload_n 1, 1) := by decide +kernel
theorem dL_near_5 : decode cL_near 5 = .ok (.iload_n 2, 1) := by decide +kernel
theorem dL_near_6 : decode cL_near 6 = .ok (.iload_n 3, 1) := by decide +kernel
theorem dL_near_7 : decode cL_near 7 = .ok (.invokevirtual 88, 3) := by decide +kernel
theorem dL_near_10 : decode cL_near 10 = .ok (.ifCond .eq 7, 3) := by decide +kernel
theorem dL_near_13 : decode cL_near 13 = .ok (.lconst 1, 1) := by decide +kernel
theorem dL_near_14 : decode cL_near 14 = .ok (.goto 4, 3) := by decide +kernel
theorem dL_near_17 : decode cL_near 17 = .ok (.lconst 0, 1) := by decide +kernel
theorem dL_near_18 : decode cL_near 18 = .ok (.lastore, 1) := by decide +kernel
theorem dL_near_19 : decode cL_near 19 = .ok (.goto 7, 3) := by decide +kernel
theorem dL_near_22 : decode cL_near 22 = .ok (.astore 5, 2) := by decide +kernel
theorem dL_near_24 : decode cL_near 24 = .ok (.iconst 1, 1) := by decide +kernel
theorem dL_near_25 : decode cL_near 25 = .ok (.ireturn, 1) := by decide +kernel
theorem dL_near_26 : decode cL_near 26 = .ok (.iconst 0, 1) := by decide +kernel
theorem dL_near_27 : decode cL_near 27 = .ok (.ireturn, 1) := by decide +kernel
theorem dL_ask_0 : decode cL_ask 0 = .ok (.aload_n 3, 1) := by decide +kernel
theorem dL_ask_1 : decode cL_ask 1 = .ok (.iconst 0, 1) := by decide +kernel
theorem dL_ask_2 : decode cL_ask 2 = .ok (.aload_n 0, 1) := by decide +kernel
theorem dL_ask_3 : decode cL_ask 3 = .ok (.iload_n 1, 1) := by decide +kernel
theorem dL_ask_4 : decode cL_ask 4 = .ok (.iload_n 2, 1) := by decide +kernel
theorem dL_ask_5 : decode cL_ask 5 = .ok (.invokevirtual 91, 3) := by decide +kernel
theorem dL_ask_8 : decode cL_ask 8 = .ok (.i2l, 1) := by decide +kernel
theorem dL_ask_9 : decode cL_ask 9 = .ok (.lastore, 1) := by decide +kernel
theorem dL_ask_10 : decode cL_ask 10 = .ok (.goto 7, 3) := by decide +kernel
theorem dL_ask_13 : decode cL_ask 13 = .ok (.astore 4, 2) := by decide +kernel
theorem dL_ask_15 : decode cL_ask 15 = .ok (.iconst 1, 1) := by decide +kernel
theorem dL_ask_16 : decode cL_ask 16 = .ok (.ireturn, 1) := by decide +kernel
theorem dL_ask_17 : decode cL_ask 17 = .ok (.iconst 0, 1) := by decide +kernel
theorem dL_ask_18 : decode cL_ask 18 = .ok (.ireturn, 1) := by decide +kernel
