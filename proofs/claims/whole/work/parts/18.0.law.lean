theorem dL_cup_0 : decode cL_cup 0 = .ok (.aload_n 3, 1) := by decide +kernel
theorem dL_cup_1 : decode cL_cup 1 = .ok (.iconst 0, 1) := by decide +kernel
theorem dL_cup_2 : decode cL_cup 2 = .ok (.aload_n 0, 1) := by decide +kernel
theorem dL_cup_3 : decode cL_cup 3 = .ok (.iload_n 1, 1) := by decide +kernel
theorem dL_cup_4 : decode cL_cup 4 = .ok (.iload_n 2, 1) := by decide +kernel
theorem dL_cup_5 : decode cL_cup 5 = .ok (.invokevirtual 7, 3) := by decide +kernel
theorem dL_cup_8 : decode cL_cup 8 = .ok (.i2l, 1) := by decide +kernel
theorem dL_cup_9 : decode cL_cup 9 = .ok (.lastore, 1) := by decide +kernel
theorem dL_cup_10 : decode cL_cup 10 = .ok (.goto 11, 3) := by decide +kernel
theorem dL_cup_13 : decode cL_cup 13 = .ok (.astore 4, 2) := by decide +kernel
theorem dL_cup_15 : decode cL_cup 15 = .ok (.iconst 1, 1) := by decide +kernel
theorem dL_cup_16 : decode cL_cup 16 = .ok (.ireturn, 1) := by decide +kernel
theorem dL_cup_17 : decode cL_cup 17 = .ok (.astore 4, 2) := by decide +kernel
theorem dL_cup_19 : decode cL_cup 19 = .ok (.iconst 2, 1) := by decide +kernel
theorem dL_cup_20 : decode cL_cup 20 = .ok (.ireturn, 1) := by decide +kernel
theorem dL_cup_21 : decode cL_cup 21 = .ok (.iconst 0, 1) := by decide +kernel
theorem dL_cup_22 : decode cL_cup 22 = .ok (.ireturn, 1) := by decide +kernel
theorem dL_lamp_0 : decode cL_lamp 0 = .ok (.aload_n 3, 1) := by decide +kernel
theorem dL_lamp_1 : decode cL_lamp 1 = .ok (.iconst 0, 1) := by decide +kernel
theorem dL_lamp_2 : decode cL_lamp 2 = .ok (.aload_n 0, 1) := by decide +kernel
theorem dL_lamp_3 : decode cL_lamp 3 = .ok (.iload_n 1, 1) := by decide +kernel
theorem dL_lamp_4 : decode cL_lamp 4 = .ok (.iload_n 2, 1) := by decide +kernel
theorem dL_lamp_5 : decode cL_lamp 5 = .ok (.invokevirtual 17, 3) := by decide +kernel
theorem dL_lamp_8 : decode cL_lamp 8 = .ok (.i2l, 1) := by decide +kernel
theorem dL_lamp_9 : decode cL_lamp 9 = .ok (.lastore, 1) := by decide +kernel
theorem dL_lamp_10 : decode cL_lamp 10 = .ok (.goto 11, 3) := by decide +kernel
theorem dL_lamp_13 : decode cL_lamp 13 = .ok (.astore 4, 2) := by decide +kernel
theorem dL_lamp_15 : decode cL_lamp 15 = .ok (.iconst 1, 1) := by decide +kernel
theorem dL_lamp_16 : decode cL_lamp 16 = .ok (.ireturn, 1) := by decide +kernel
theorem dL_lamp_17 : decode cL_lamp 17 = .ok (.astore 4, 2) := by decide +kernel
theorem dL_lamp_19 : decode cL_lamp 19 = .ok (.iconst 2, 1) := by decide +kernel
theorem dL_lamp_20 : decode cL_lamp 20 = .ok (.ireturn, 1) := by decide +kernel
theorem dL_lamp_21 : decode cL_lamp 21 = .ok (.iconst 0, 1) := by decide +kernel
theorem dL_lamp_22 : decode cL_lamp 22 = .ok (.ireturn, 1) := by decide +kernel
theorem dL_cat_0 : decode cL_cat 0 = .ok (.aload_n 3, 1) := by decide +kernel
theorem dL_cat_1 : decode cL_cat 1 = .ok (.iconst 0, 1) := by decide +kernel
theorem dL_cat_2 : decode cL_cat 2 = .ok (.aload_n 0, 1) := by decide +kernel
theorem dL_cat_3 : decode cL_cat 3 = .ok (.iload_n 1, 1) := by decide +kernel
theorem dL_cat_4 : decode cL_cat 4 = .ok (.iload_n 2, 1) := by decide +kernel
theorem dL_cat_5 : decode cL_cat 5 = .ok (.invokevirtual 20, 3) := by decide +kernel
theorem dL_cat_8 : decode cL_cat 8 = .ok (.i2l, 1) := by decide +kernel
theorem dL_cat_9 : decode cL_cat 9 = .ok (.lastore, 1) := by decide +kernel
theorem dL_cat_10 : decode cL_cat 10 = .ok (.goto 11, 3) := by decide +kernel
theorem dL_cat_13 : decode cL_cat 13 = .ok (.astore 4, 2) := by decide +kernel
theorem dL_cat_15 : decode cL_cat 15 = .ok (.iconst 1, 1) := by decide +kernel
theorem dL_cat_16 : decode cL_cat 16 = .ok (.ireturn, 1) := by decide +kernel
theorem dL_cat_17 : decode cL_cat 17 = .ok (.astore 4, 2) := by decide +kernel
theorem dL_cat_19 : decode cL_cat 19 = .ok (.iconst 2, 1) := by decide +kernel
theorem dL_cat_20 : decode cL_cat 20 = .ok (.ireturn, 1) := by decide +kernel
theorem dL_cat_21 : decode cL_cat 21 = .ok (.iconst 0, 1) := by decide +kernel
theorem dL_cat_22 : decode cL_cat 22 = .ok (.ireturn, 1) := by decide +kernel
theorem dL_take_0 : decode cL_take 0 = .ok (.aload_n 2, 1) := by decide +kernel
theorem dL_take_1 : decode cL_take 1 = .ok (.iconst 0, 1) := by decide +kernel
theorem dL_take_2 : decode cL_take 2 = .ok (.aload_n 0, 1) := by decide +kernel
theorem dL_take_3 : decode cL_take 3 = .ok (.iload_n 1, 1) := by decide +kernel
theorem dL_take_4 : decode cL_take 4 = .ok (.invokevirtual 23, 3) := by decide +kernel
theorem dL_take_7 : decode cL_take 7 = .ok (.i2l, 1) := by decide +kernel
theorem dL_take_8 : decode cL_take 8 = .ok (.lastore, 1) := by decide +kernel
theorem dL_take_9 : decode cL_take 9 = .ok (.goto 6, 3) := by decide +kernel
theorem dL_take_12 : decode cL_take 12 = .ok (.astore_n 3, 1) := by decide +kernel
theorem dL_take_13 : decode cL_take 13 = .ok (.iconst 1, 1) := by decide +kernel
theorem dL_take_14 : decode cL_take 14 = .ok (.ireturn, 1) := by decide +kernel
theorem dL_take_15 : decode cL_take 15 = .ok (.iconst 0, 1) := by decide +kernel
theorem dL_take_16 : decode cL_take 16 = .ok (.ireturn, 1) := by decide +kernel
theorem dL_cue_0 : decode cL_cue 0 = .ok (.aload_n 3, 1) := by decide +kernel
theorem dL_cue_1 : decode cL_cue 1 = .ok (.iconst 0, 1) := by decide +kernel
theorem dL_cue_2 : decode cL_cue 2 = .ok (.aload_n 0, 1) := by decide +kernel
theorem dL_cue_3 : decode cL_cue 3 = .ok (.iload_n 1, 1) := by decide +kernel
theorem dL_cue_4 : decode cL_cue 4 = .ok (.iload_n 2, 1) := by decide +kernel
theorem dL_cue_5 : decode cL_cue 5 = .ok (.invokevirtual 29, 3) := by decide +kernel
theorem dL_cue_8 : decode cL_cue 8 = .ok (.i2l, 1) := by decide +kernel
theorem dL_cue_9 : decode cL_cue 9 = .ok (.lastore, 1) := by decide +kernel
theorem dL_cue_10 : decode cL_cue 10 = .ok (.goto 15, 3) := by decide +kernel
theorem dL_cue_13 : decode cL_cue 13 = .ok (.astore 4, 2) := by decide +kernel
theorem dL_cue_15 : decode cL_cue 15 = .ok (.iconst 1, 1) := by decide +kernel
theorem dL_cue_16 : decode cL_cue 16 = .ok (.ireturn, 1) := by decide +kernel
theorem dL_cue_17 : decode cL_cue 17 = .ok (.astore 4, 2) := by decide +kernel
theorem dL_cue_19 : decode cL_cue 19 = .ok (.iconst 2, 1) := by decide +kernel
theorem dL_cue_20 : decode cL_cue 20 = .ok (.ireturn, 1) := by decide +kernel
theorem dL_cue_21 : decode cL_cue 21 = .ok (.astore 4, 2) := by decide +kernel
theorem dL_cue_23 : decode cL_cue 23 = .ok (.iconst 3, 1) := by decide +kernel
theorem dL_cue_24 : decode cL_cue 24 = .ok (.ireturn, 1) := by decide +kernel
theorem dL_cue_25 : decode cL_cue 25 = .ok (.iconst 0, 1) := by decide +kernel
theorem dL_cue_26 : decode cL_cue 26 = .ok (.ireturn, 1) := by decide +kernel
theorem dL_set_0 : decode cL_set 0 = .ok (.aload_n 2, 1) := by decide +kernel
theorem dL_set_1 : decode cL_set 1 = .ok (.iconst 0, 1) := by decide +kernel
theorem dL_set_2 : decode cL_set 2 = .ok (.aload_n 0, 1) := by decide +kernel
theorem dL_set_3 : decode cL_set 3 = .ok (.iload_n 1, 1) := by decide +kernel
theorem dL_set_4 : decode cL_set 4 = .ok (.invokevirtual 32, 3) := by decide +kernel
theorem dL_set_7 : decode cL_set 7 = .ok (.i2l, 1) := by decide +kernel
theorem dL_set_8 : decode cL_set 8 = .ok (.lastore, 1) := by decide +kernel
theorem dL_set_9 : decode cL_set 9 = .ok (.goto 9, 3) := by decide +kernel
theorem dL_set_12 : decode cL_set 12 = .ok (.astore_n 3, 1) := by decide +kernel
theorem dL_set_13 : decode cL_set 13 = .ok (.iconst 1, 1) := by decide +kernel
theorem dL_set_14 : decode cL_set 14 = .ok (.ireturn, 1) := by decide +kernel
theorem dL_set_15 : decode cL_set 15 = .ok (.astore_n 3, 1) := by decide +kernel
theorem dL_set_16 : decode cL_set 16 = .ok (.iconst 2, 1) := by decide +kernel
theorem dL_set_17 : decode cL_set 17 = .ok (.ireturn, 1) := by decide +kernel
theorem dL_set_18 : decode cL_set 18 = .ok (.iconst 0, 1) := by decide +kernel
theorem dL_set_19 : decode cL_set 19 = .ok (.ireturn, 1) := by decide +kernel
theorem dL_add_0 : decode cL_add 0 = .ok (.aload_n 2, 1) := by decide +kernel
theorem dL_add_1 : decode cL_add 1 = .ok (.iconst 0, 1) := by decide +kernel
theorem dL_add_2 : decode cL_add 2 = .ok (.aload_n 0, 1) := by decide +kernel
theorem dL_add_3 : decode cL_add 3 = .ok (.iload_n 1, 1) := by decide +kernel
theorem dL_add_4 : decode cL_add 4 = .ok (.invokevirtual 35, 3) := by decide +kernel
theorem dL_add_7 : decode cL_add 7 = .ok (.i2l, 1) := by decide +kernel
theorem dL_add_8 : decode cL_add 8 = .ok (.lastore, 1) := by decide +kernel
theorem dL_add_9 : decode cL_add 9 = .ok (.goto 9, 3) := by decide +kernel
theorem dL_add_12 : decode cL_add 12 = .ok (.astore_n 3, 1) := by decide +kernel
theorem dL_add_13 : decode cL_add 13 = .ok (.iconst 1, 1) := by decide +kernel
theorem dL_add_14 : decode cL_add 14 = .ok (.ireturn, 1) := by decide +kernel
theorem dL_add_15 : decode cL_add 15 = .ok (.astore_n 3, 1) := by decide +kernel
theorem dL_add_16 : decode cL_add 16 = .ok (.iconst 2, 1) := by decide +kernel
theorem dL_add_17 : decode cL_add 17 = .ok (.ireturn, 1) := by decide +kernel
theorem dL_add_18 : decode cL_add 18 = .ok (.iconst 0, 1) := by decide +kernel
theorem dL_add_19 : decode cL_add 19 = .ok (.ireturn, 1) := by decide +kernel
theorem dL_perform_0 : decode cL_perform 0 = .ok (.aload_n 1, 1) := by decide +kernel
theorem dL_perform_1 : decode cL_perform 1 = .ok (.iconst 0, 1) := by decide +kernel
theorem dL_perform_2 : decode cL_perform 2 = .ok (.aload_n 0, 1) := by decide +kernel
theorem dL_perform_3 : decode cL_perform 3 = .ok (.invokevirtual 38, 3) := by decide +kernel
theorem dL_perform_6 : decode cL_perform 6 = .ok (.i2l, 1) := by decide +kernel
theorem dL_perform_7 : decode cL_perform 7 = .ok (.lastore, 1) := by decide +kernel
theorem dL_perform_8 : decode cL_perform 8 = .ok (.goto 6, 3) := by decide +kernel
theorem dL_perform_11 : decode cL_perform 11 = .ok (.astore_n 2, 1) := by decide +kernel
theorem dL_perform_12 : decode cL_perform 12 = .ok (.iconst 1, 1) := by decide +kernel
theorem dL_perform_13 : decode cL_perform 13 = .ok (.ireturn, 1) := by decide +kernel
theorem dL_perform_14 : decode cL_perform 14 = .ok (.iconst 0, 1) := by decide +kernel
theorem dL_perform_15 : decode cL_perform 15 = .ok (.ireturn, 1) := by decide +kernel
theorem dL_propOf_0 : decode cL_propOf 0 = .ok (.aload_n 3, 1) := by decide +kernel
theorem dL_propOf_1 : decode cL_propOf 1 = .ok (.iconst 0, 1) := by decide +kernel
theorem dL_propOf_2 : decode cL_propOf 2 = .ok (.aload_n 0, 1) := by decide +kernel
theorem dL_propOf_3 : decode cL_propOf 3 = .ok (.iload_n 1, 1) := by decide +kernel
theorem dL_propOf_4 : decode cL_propOf 4 = .ok (.iload_n 2, 1) := by decide +kernel
theorem dL_propOf_5 : decode cL_propOf 5 = .ok (.invokevirtual 42, 3) := by decide +kernel
theorem dL_propOf_8 : decode cL_propOf 8 = .ok (.i2l, 1) := by decide +kernel
theorem dL_propOf_9 : decode cL_propOf 9 = .ok (.lastore, 1) := by decide +kernel
theorem dL_propOf_10 : decode cL_propOf 10 = .ok (.goto 11, 3) := by decide +kernel
theorem dL_propOf_13 : decode cL_propOf 13 = .ok (.astore 4, 2) := by decide +kernel
theorem dL_propOf_15 : decode cL_propOf 15 = .ok (.iconst 1, 1) := by decide +kernel
theorem dL_propOf_16 : decode cL_propOf 16 = .ok (.ireturn, 1) := by decide +kernel
theorem dL_propOf_17 : decode cL_propOf 17 = .ok (.astore 4, 2) := by decide +kernel
theorem dL_propOf_19 : decode cL_propOf 19 = .ok (.iconst 2, 1) := by decide +kernel
theorem dL_propOf_20 : decode cL_propOf 20 = .ok (.ireturn, 1) := by decide +kernel
theorem dL_propOf_21 : decode cL_propOf 21 = .ok (.iconst 0, 1) := by decide +kernel
theorem dL_propOf_22 : decode cL_propOf 22 = .ok (.ireturn, 1) := by decide +kernel
theorem dL_programme_0 : decode cL_programme 0 = .ok (.aload_n 2, 1) := by decide +kernel
theorem dL_programme_1 : decode cL_programme 1 = .ok (.iconst 0, 1) := by decide +kernel
theorem dL_programme_2 : decode cL_programme 2 = .ok (.aload_n 0, 1) := by decide +kernel
theorem dL_programme_3 : decode cL_programme 3 = .ok (.iload_n 1, 1) := by decide +kernel
theorem dL_programme_4 : decode cL_programme 4 = .ok (.invokevirtual 45, 3) := by decide +kernel
theorem dL_programme_7 : decode cL_programme 7 = .ok (.i2l, 1) := by decide +kernel
theorem dL_programme_8 : decode cL_programme 8 = .ok (.lastore, 1) := by decide +kernel
theorem dL_programme_9 : decode cL_programme 9 = .ok (.goto 6, 3) := by decide +kernel
theorem dL_programme_12 : decode cL_programme 12 = .ok (.astore_n 3, 1) := by decide +kernel
theorem dL_programme_13 : decode cL_programme 13 = .ok (.iconst 1, 1) := by decide +kernel
theorem dL_programme_14 : decode cL_programme 14 = .ok (.ireturn, 1) := by decide +kernel
theorem dL_programme_15 : decode cL_programme 15 = .ok (.iconst 0, 1) := by decide +kernel
theorem dL_programme_16 : decode cL_programme 16 = .ok (.ireturn, 1) := by decide +kernel
theorem dL_on_0 : decode cL_on 0 = .ok (.aload 4, 2) := by decide +kernel
theorem dL_on_2 : decode cL_on 2 = .ok (.iconst 0, 1) := by decide +kernel
theorem dL_on_3 : decode cL_on 3 = .ok (.aload_n 0, 1) := by decide +kernel
theorem dL_on_4 : decode cL_on 4 = .ok (.iload_n 1, 1) := by decide +kernel
theorem dL_on_5 : decode cL_on 5 = .ok (.iload_n 2, 1) := by decide +kernel
theorem dL_on_6 : decode cL_on 6 = .ok (.iload_n 3, 1) := by decide +kernel
theorem dL_on_7 : decode cL_on 7 = .ok (.invokevirtual 50, 3) := by decide +kernel
theorem dL_on_10 : decode cL_on 10 = .ok (.i2l, 1) := by decide +kernel
theorem dL_on_11 : decode cL_on 11 = .ok (.lastore, 1) := by decide +kernel
theorem dL_on_12 : decode cL_on 12 = .ok (.goto 7, 3) := by decide +kernel
theorem dL_on_15 : decode cL_on 15 = .ok (.astore 5, 2) := by decide +kernel
theorem dL_on_17 : decode cL_on 17 = .ok (.iconst 1, 1) := by decide +kernel
theorem dL_on_18 : decode cL_on 18 = .ok (.ireturn, 1) := by decide +kernel
theorem dL_on_19 : decode cL_on 19 = .ok (.iconst 0, 1) := by decide +kernel
theorem dL_on_20 : decode cL_on 20 = .ok (.ireturn, 1) := by decide +kernel
theorem dL_wouldMark_0 : decode cL_wouldMark 0 = .ok (.aload_n 2, 1) := by decide +kernel
theorem dL_wouldMark_1 : decode cL_wouldMark 1 = .ok (.iconst 0, 1) := by decide +kernel
theorem dL_wouldMark_2 : decode cL_wouldMark 2 = .ok (.aload_n 0, 1) := by decide +kernel
theorem dL_wouldMark_3 : decode cL_wouldMark 3 = .ok (.iload_n 1, 1) := by decide +kernel
theorem dL_wouldMark_4 : decode cL_wouldMark 4 = .ok (.invokevirtual 54, 3) := by decide +kernel
theorem dL_wouldMark_7 : decode cL_wouldMark 7 = .ok (.i2l, 1) := by decide +kernel
theorem dL_wouldMark_8 : decode cL_wouldMark 8 = .ok (.lastore, 1) := by decide +kernel
theorem dL_wouldMark_9 : decode cL_wouldMark 9 = .ok (.goto 6, 3) := by decide +kernel
theorem dL_wouldMark_12 : decode cL_wouldMark 12 = .ok (.astore_n 3, 1) := by decide +kernel
theorem dL_wouldMark_13 : decode cL_wouldMark 13 = .ok (.iconst 1, 1) := by decide +kernel
theorem dL_wouldMark_14 : decode cL_wouldMark 14 = .ok (.ireturn, 1) := by decide +kernel
theorem dL_wouldMark_15 : decode cL_wouldMark 15 = .ok (.iconst 0, 1) := by decide +kernel
theorem dL_wouldMark_16 : decode cL_wouldMark 16 = .ok (.ireturn, 1) := by decide +kernel
theorem dL_wouldBreak_0 : decode cL_wouldBreak 0 = .ok (.aload_n 3, 1) := by decide +kernel
theorem dL_wouldBreak_1 : decode cL_wouldBreak 1 = .ok (.iconst 0, 1) := by decide +kernel
theorem dL_wouldBreak_2 : decode cL_wouldBreak 2 = .ok (.aload_n 0, 1) := by decide +kernel
theorem dL_wouldBreak_3 : decode cL_wouldBreak 3 = .ok (.iload_n 1, 1) := by decide +kernel
theorem dL_wouldBreak_4 : decode cL_wouldBreak 4 = .ok (.iload_n 2, 1) := by decide +kernel
theorem dL_wouldBreak_5 : decode cL_wouldBreak 5 = .ok (.invokevirtual 57, 3) := by decide +kernel
theorem dL_wouldBreak_8 : decode cL_wouldBreak 8 = .ok (.i2l, 1) := by decide +kernel
theorem dL_wouldBreak_9 : decode cL_wouldBreak 9 = .ok (.lastore, 1) := by decide +kernel
theorem dL_wouldBreak_10 : decode cL_wouldBreak 10 = .ok (.goto 7, 3) := by decide +kernel
theorem dL_wouldBreak_13 : decode cL_wouldBreak 13 = .ok (.astore 4, 2) := by decide +kernel
theorem dL_wouldBreak_15 : decode cL_wouldBreak 15 = .ok (.iconst 1, 1) := by decide +kernel
theorem dL_wouldBreak_16 : decode cL_wouldBreak 16 = .ok (.ireturn, 1) := by decide +kernel
theorem dL_wouldBreak_17 : decode cL_wouldBreak 17 = .ok (.iconst 0, 1) := by decide +kernel
theorem dL_wouldBreak_18 : decode cL_wouldBreak 18 = .ok (.ireturn, 1) := by decide +kernel
theorem dL_leastBreaking_0 : decode cL_leastBreaking 0 = .ok (.aload_n 1, 1) := by decide +kernel
theorem dL_leastBreaking_1 : decode cL_leastBreaking 1 = .ok (.iconst 0, 1) := by decide +kernel
theorem dL_leastBreaking_2 : decode cL_leastBreaking 2 = .ok (.aload_n 0, 1) := by decide +kernel
theorem dL_leastBreaking_3 : decode cL_leastBreaking 3 = .ok (.invokevirtual 61, 3) := by decide +kernel
theorem dL_leastBreaking_6 : decode cL_leastBreaking 6 = .ok (.i2l, 1) := by decide +kernel
theorem dL_leastBreaking_7 : decode cL_leastBreaking 7 = .ok (.lastore, 1) := by decide +kernel
theorem dL_leastBreaking_8 : decode cL_leastBreaking 8 = .ok (.goto 6, 3) := by decide +kernel
theorem dL_leastBreaking_11 : decode cL_leastBreaking 11 = .ok (.astore_n 2, 1) := by decide +kernel
theorem dL_leastBreaking_12 : decode cL_leastBreaking 12 = .ok (.iconst 1, 1) := by decide +kernel
theorem dL_leastBreaking_13 : decode cL_leastBreaking 13 = .ok (.ireturn, 1) := by decide +kernel
theorem dL_leastBreaking_14 : decode cL_leastBreaking 14 = .ok (.iconst 0, 1) := by decide +kernel
theorem dL_leastBreaking_15 : decode cL_leastBreaking 15 = .ok (.ireturn, 1) := by decide +kernel
theorem dL_shocksFor_0 : decode cL_shocksFor 0 = .ok (.aload_n 2, 1) := by decide +kernel
theorem dL_shocksFor_1 : decode cL_shocksFor 1 = .ok (.iconst 0, 1) := by decide +kernel
theorem dL_shocksFor_2 : decode cL_shocksFor 2 = .ok (.aload_n 0, 1) := by decide +kernel
theorem dL_shocksFor_3 : decode cL_shocksFor 3 = .ok (.iload_n 1, 1) := by decide +kernel
theorem dL_shocksFor_4 : decode cL_shocksFor 4 = .ok (.invokevirtual 64, 3) := by decide +kernel
theorem dL_shocksFor_7 : decode cL_shocksFor 7 = .ok (.i2l, 1) := by decide +kernel
theorem dL_shocksFor_8 : decode cL_shocksFor 8 = .ok (.lastore, 1) := by decide +kernel
theorem dL_shocksFor_9 : decode cL_shocksFor 9 = .ok (.goto 6, 3) := by decide +kernel
theorem dL_shocksFor_12 : decode cL_shocksFor 12 = .ok (.astore_n 3, 1) := by decide +kernel
theorem dL_shocksFor_13 : decode cL_shocksFor 13 = .ok (.iconst 1, 1) := by decide +kernel
theorem dL_shocksFor_14 : decode cL_shocksFor 14 = .ok (.ireturn, 1) := by decide +kernel
theorem dL_shocksFor_15 : decode cL_shocksFor 15 = .ok (.iconst 0, 1) := by decide +kernel
theorem dL_shocksFor_16 : decode cL_shocksFor 16 = .ok (.ireturn, 1) := by decide +kernel
theorem dL_isBroken_0 : decode cL_isBroken 0 = .ok (.aload_n 2, 1) := by decide +kernel
theorem dL_isBroken_1 : decode cL_isBroken 1 = .ok (.iconst 0, 1) := by decide +kernel
theorem dL_isBroken_2 : decode cL_isBroken 2 = .ok (.aload_n 0, 1) := by decide +kernel
theorem dL_isBroken_3 : decode cL_isBroken 3 = .ok (.iload_n 1, 1) := by decide +kernel
theorem dL_isBroken_4 : decode cL_isBroken 4 = .ok (.invokevirtual 67, 3) := by decide +kernel
theorem dL_isBroken_7 : decode cL_isBroken 7 = .ok (.ifCond .eq 7, 3) := by decide +kernel
theorem dL_isBroken_10 : decode cL_isBroken 10 = .ok (.lconst 1, 1) := by decide +kernel
theorem dL_isBroken_11 : decode cL_isBroken 11 = .ok (.goto 4, 3) := by decide +kernel
theorem dL_isBroken_14 : decode cL_isBroken 14 = .ok (.lconst 0, 1) := by decide +kernel
theorem dL_isBroken_15 : decode cL_isBroken 15 = .ok (.lastore, 1) := by decide +kernel
theorem dL_isBroken_16 : decode cL_isBroken 16 = .ok (.goto 6, 3) := by decide +kernel
theorem dL_isBroken_19 : decode cL_isBroken 19 = .ok (.astore_n 3, 1) := by decide +kernel
theorem dL_isBroken_20 : decode cL_isBroken 20 = .ok (.iconst 1, 1) := by decide +kernel
theorem dL_isBroken_21 : decode cL_isBroken 21 = .ok (.ireturn, 1) := by decide +kernel
theorem dL_isBroken_22 : decode cL_isBroken 22 = .ok (.iconst 0, 1) := by decide +kernel
theorem dL_isBroken_23 : decode cL_isBroken 23 = .ok (.ireturn, 1) := by decide +kernel
theorem dL_cupAt_0 : decode cL_cupAt 0 = .ok (.aload_n 2, 1) := by decide +kernel
theorem dL_cupAt_1 : decode cL_cupAt 1 = .ok (.iconst 0, 1) := by decide +kernel
theorem dL_cupAt_2 : decode cL_cupAt 2 = .ok (.aload_n 0, 1) := by decide +kernel
theorem dL_cupAt_3 : decode cL_cupAt 3 = .ok (.iload_n 1, 1) := by decide +kernel
theorem dL_cupAt_4 : decode cL_cupAt 4 = .ok (.invokevirtual 71, 3) := by decide +kernel
theorem dL_cupAt_7 : decode cL_cupAt 7 = .ok (.i2l, 1) := by decide +kernel
theorem dL_cupAt_8 : decode cL_cupAt 8 = .ok (.lastore, 1) := by decide +kernel
theorem dL_cupAt_9 : decode cL_cupAt 9 = .ok (.goto 6, 3) := by decide +kernel
theorem dL_cupAt_12 : decode cL_cupAt 12 = .ok (.astore_n 3, 1) := by decide +kernel
theorem dL_cupAt_13 : decode cL_cupAt 13 = .ok (.iconst 1, 1) := by decide +kernel
theorem dL_cupAt_14 : decode cL_cupAt 14 = .ok (.ireturn, 1) := by decide +kernel
theorem dL_cupAt_15 : decode cL_cupAt 15 = .ok (.iconst 0, 1) := by decide +kernel
theorem dL_cupAt_16 : decode cL_cupAt 16 = .ok (.ireturn, 1) := by decide +kernel
theorem dL_lampAt_0 : decode cL_lampAt 0 = .ok (.aload_n 2, 1) := by decide +kernel
theorem dL_lampAt_1 : decode cL_lampAt 1 = .ok (.iconst 0, 1) := by decide +kernel
theorem dL_lampAt_2 : decode cL_lampAt 2 = .ok (.aload_n 0, 1) := by decide +kernel
theorem dL_lampAt_3 : decode cL_lampAt 3 = .ok (.iload_n 1, 1) := by decide +kernel
theorem dL_lampAt_4 : decode cL_lampAt 4 = .ok (.invokevirtual 74, 3) := by decide +kernel
theorem dL_lampAt_7 : decode cL_lampAt 7 = .ok (.i2l, 1) := by decide +kernel
theorem dL_lampAt_8 : decode cL_lampAt 8 = .ok (.lastore, 1) := by decide +kernel
theorem dL_lampAt_9 : decode cL_lampAt 9 = .ok (.goto 6, 3) := by decide +kernel
theorem dL_lampAt_12 : decode cL_lampAt 12 = .ok (.astore_n 3, 1) := by decide +kernel
theorem dL_lampAt_13 : decode cL_lampAt 13 = .ok (.iconst 1, 1) := by decide +kernel
theorem dL_lampAt_14 : decode cL_lampAt 14 = .ok (.ireturn, 1) := by decide +kernel
theorem dL_lampAt_15 : decode cL_lampAt 15 = .ok (.iconst 0, 1) := by decide +kernel
theorem dL_lampAt_16 : decode cL_lampAt 16 = .ok (.ireturn, 1) := by decide +kernel
theorem dL_catAt_0 : decode cL_catAt 0 = .ok (.aload_n 2, 1) := by decide +kernel
theorem dL_catAt_1 : decode cL_catAt 1 = .ok (.iconst 0, 1) := by decide +kernel
theorem dL_catAt_2 : decode cL_catAt 2 = .ok (.aload_n 0, 1) := by decide +kernel
theorem dL_catAt_3 : decode cL_catAt 3 = .ok (.iload_n 1, 1) := by decide +kernel
theorem dL_catAt_4 : decode cL_catAt 4 = .ok (.invokevirtual 77, 3) := by decide +kernel
theorem dL_catAt_7 : decode cL_catAt 7 = .ok (.i2l, 1) := by decide +kernel
theorem dL_catAt_8 : decode cL_catAt 8 = .ok (.lastore, 1) := by decide +kernel
theorem dL_catAt_9 : decode cL_catAt 9 = .ok (.goto 6, 3) := by decide +kernel
theorem dL_catAt_12 : decode cL_catAt 12 = .ok (.astore_n 3, 1) := by decide +kernel
theorem dL_catAt_13 : decode cL_catAt 13 = .ok (.iconst 1, 1) := by decide +kernel
theorem dL_catAt_14 : decode cL_catAt 14 = .ok (.ireturn, 1) := by decide +kernel
theorem dL_catAt_15 : decode cL_catAt 15 = .ok (.iconst 0, 1) := by decide +kernel
theorem dL_catAt_16 : decode cL_catAt 16 = .ok (.ireturn, 1) := by decide +kernel
theorem dL_onFloor_0 : decode cL_onFloor 0 = .ok (.aload_n 3, 1) := by decide +kernel
theorem dL_onFloor_1 : decode cL_onFloor 1 = .ok (.iconst 0, 1) := by decide +kernel
theorem dL_onFloor_2 : decode cL_onFloor 2 = .ok (.aload_n 0, 1) := by decide +kernel
theorem dL_onFloor_3 : decode cL_onFloor 3 = .ok (.iload_n 1, 1) := by decide +kernel
theorem dL_onFloor_4 : decode cL_onFloor 4 = .ok (.iload_n 2, 1) := by decide +kernel
theorem dL_onFloor_5 : decode cL_onFloor 5 = .ok (.invokevirtual 80, 3) := by decide +kernel
theorem dL_onFloor_8 : decode cL_onFloor 8 = .ok (.i2l, 1) := by decide +kernel
theorem dL_onFloor_9 : decode cL_onFloor 9 = .ok (.lastore, 1) := by decide +kernel
theorem dL_onFloor_10 : decode cL_onFloor 10 = .ok (.goto 7, 3) := by decide +kernel
theorem dL_onFloor_13 : decode cL_onFloor 13 = .ok (.astore 4, 2) := by decide +kernel
theorem dL_onFloor_15 : decode cL_onFloor 15 = .ok (.iconst 1, 1) := by decide +kernel
theorem dL_onFloor_16 : decode cL_onFloor 16 = .ok (.ireturn, 1) := by decide +kernel
theorem dL_onFloor_17 : decode cL_onFloor 17 = .ok (.iconst 0, 1) := by decide +kernel
theorem dL_onFloor_18 : decode cL_onFloor 18 = .ok (.ireturn, 1) := by decide +kernel
theorem dL_line_0 : decode cL_line 0 = .ok (.aload_n 2, 1) := by decide +kernel
theorem dL_line_1 : decode cL_line 1 = .ok (.iconst 0, 1) := by decide +kernel
theorem dL_line_2 : decode cL_line 2 = .ok (.aload_n 0, 1) := by decide +kernel
theorem dL_line_3 : decode cL_line 3 = .ok (.iload_n 1, 1) := by decide +kernel
theorem dL_line_4 : decode cL_line 4 = .ok (.invokevirtual 83, 3) := by decide +kernel
theorem dL_line_7 : decode cL_line 7 = .ok (.i2l, 1) := by decide +kernel
theorem dL_line_8 : decode cL_line 8 = .ok (.lastore, 1) := by decide +kernel
theorem dL_line_9 : decode cL_line 9 = .ok (.goto 6, 3) := by decide +kernel
theorem dL_line_12 : decode cL_line 12 = .ok (.astore_n 3, 1) := by decide +kernel
theorem dL_line_13 : decode cL_line 13 = .ok (.iconst 1, 1) := by decide +kernel
theorem dL_line_14 : decode cL_line 14 = .ok (.ireturn, 1) := by decide +kernel
theorem dL_line_15 : decode cL_line 15 = .ok (.iconst 0, 1) := by decide +kernel
theorem dL_line_16 : decode cL_line 16 = .ok (.ireturn, 1) := by decide +kernel
theorem dL_character_0 : decode cL_character 0 = .ok (.aload_n 2, 1) := by decide +kernel
theorem dL_character_1 : decode cL_character 1 = .ok (.iconst 0, 1) := by decide +kernel
theorem dL_character_2 : decode cL_character 2 = .ok (.aload_n 0, 1) := by decide +kernel
theorem dL_character_3 : decode cL_character 3 = .ok (.iload_n 1, 1) := by decide +kernel
theorem dL_character_4 : decode cL_character 4 = .ok (.invokevirtual 86, 3) := by decide +kernel
theorem dL_character_7 : decode cL_character 7 = .ok (.i2l, 1) := by decide +kernel
theorem dL_character_8 : decode cL_character 8 = .ok (.lastore, 1) := by decide +kernel
theorem dL_character_9 : decode cL_character 9 = .ok (.goto 6, 3) := by decide +kernel
theorem dL_character_12 : decode cL_character 12 = .ok (.astore_n 3, 1) := by decide +kernel
theorem dL_character_13 : decode cL_character 13 = .ok (.iconst 1, 1) := by decide +kernel
theorem dL_character_14 : decode cL_character 14 = .ok (.ireturn, 1) := by decide +kernel
theorem dL_character_15 : decode cL_character 15 = .ok (.iconst 0, 1) := by decide +kernel
theorem dL_character_16 : decode cL_character 16 = .ok (.ireturn, 1) := by decide +kernel
theorem dL_append_0 : decode cL_append 0 = .ok (.aload_n 2, 1) := by decide +kernel
theorem dL_append_1 : decode cL_append 1 = .ok (.iconst 0, 1) := by decide +kernel
theorem dL_append_2 : decode cL_append 2 = .ok (.aload_n 0, 1) := by decide +kernel
theorem dL_append_3 : decode cL_append 3 = .ok (.iload_n 1, 1) := by decide +kernel
theorem dL_append_4 : decode cL_append 4 = .ok (.invokevirtual 90, 3) := by decide +kernel
theorem dL_append_7 : decode cL_append 7 = .ok (.i2l, 1) := by decide +kernel
theorem dL_append_8 : decode cL_append 8 = .ok (.lastore, 1) := by decide +kernel
theorem dL_append_9 : decode cL_append 9 = .ok (.goto 6, 3) := by decide +kernel
theorem dL_append_12 : decode cL_append 12 = .ok (.astore_n 3, 1) := by decide +kernel
theorem dL_append_13 : decode cL_append 13 = .ok (.iconst 1, 1) := by decide +kernel
theorem dL_append_14 : decode cL_append 14 = .ok (.ireturn, 1) := by decide +kernel
theorem dL_append_15 : decode cL_append 15 = .ok (.iconst 0, 1) := by decide +kernel
theorem dL_append_16 : decode cL_append 16 = .ok (.ireturn, 1) := by decide +kernel
theorem dL_run_0 : decode cL_run 0 = .ok (.aload_n 1, 1) := by decide +kernel
theorem dL_run_1 : decode cL_run 1 = .ok (.iconst 0, 1) := by decide +kernel
theorem dL_run_2 : decode cL_run 2 = .ok (.aload_n 0, 1) := by decide +kernel
theorem dL_run_3 : decode cL_run 3 = .ok (.invokevirtual 96, 3) := by decide +kernel
theorem dL_run_6 : decode cL_run 6 = .ok (.i2l, 1) := by decide +kernel
theorem dL_run_7 : decode cL_run 7 = .ok (.lastore, 1) := by decide +kernel
theorem dL_run_8 : decode cL_run 8 = .ok (.goto 9, 3) := by decide +kernel
theorem dL_run_11 : decode cL_run 11 = .ok (.astore_n 2, 1) := by decide +kernel
theorem dL_run_12 : decode cL_run 12 = .ok (.iconst 1, 1) := by decide +kernel
theorem dL_run_13 : decode cL_run 13 = .ok (.ireturn, 1) := by decide +kernel
theorem dL_run_14 : decode cL_run 14 = .ok (.astore_n 2, 1) := by decide +kernel
theorem dL_run_15 : decode cL_run 15 = .ok (.iconst 2, 1) := by decide +kernel
theorem dL_run_16 : decode cL_run 16 = .ok (.ireturn, 1) := by decide +kernel
theorem dL_run_17 : decode cL_run 17 = .ok (.iconst 0, 1) := by decide +kernel
theorem dL_run_18 : decode cL_run 18 = .ok (.ireturn, 1) := by decide +kernel
theorem dL_refusal_0 : decode cL_refusal 0 = .ok (.aload_n 2, 1) := by decide +kernel
theorem dL_refusal_1 : decode cL_refusal 1 = .ok (.iconst 0, 1) := by decide +kernel
theorem dL_refusal_2 : decode cL_refusal 2 = .ok (.aload_n 0, 1) := by decide +kernel
theorem dL_refusal_3 : decode cL_refusal 3 = .ok (.iload_n 1, 1) := by decide +kernel
theorem dL_refusal_4 : decode cL_refusal 4 = .ok (.invokevirtual 99, 3) := by decide +kernel
theorem dL_refusal_7 : decode cL_refusal 7 = .ok (.i2l, 1) := by decide +kernel
theorem dL_refusal_8 : decode cL_refusal 8 = .ok (.lastore, 1) := by decide +kernel
theorem dL_refusal_9 : decode cL_refusal 9 = .ok (.goto 6, 3) := by decide +kernel
theorem dL_refusal_12 : decode cL_refusal 12 = .ok (.astore_n 3, 1) := by decide +kernel
theorem dL_refusal_13 : decode cL_refusal 13 = .ok (.iconst 1, 1) := by decide +kernel
theorem dL_refusal_14 : decode cL_refusal 14 = .ok (.ireturn, 1) := by decide +kernel
theorem dL_refusal_15 : decode cL_refusal 15 = .ok (.iconst 0, 1) := by decide +kernel
theorem dL_refusal_16 : decode cL_refusal 16 = .ok (.ireturn, 1) := by decide +kernel
theorem dL_account_0 : decode cL_account 0 = .ok (.aload_n 2, 1) := by decide +kernel
theorem dL_account_1 : decode cL_account 1 = .ok (.iconst 0, 1) := by decide +kernel
theorem dL_account_2 : decode cL_account 2 = .ok (.aload_n 0, 1) := by decide +kernel
theorem dL_account_3 : decode cL_account 3 = .ok (.iload_n 1, 1) := by decide +kernel
theorem dL_account_4 : decode cL_account 4 = .ok (.invokevirtual 103, 3) := by decide +kernel
theorem dL_account_7 : decode cL_account 7 = .ok (.i2l, 1) := by decide +kernel
theorem dL_account_8 : decode cL_account 8 = .ok (.lastore, 1) := by decide +kernel
theorem dL_account_9 : decode cL_account 9 = .ok (.goto 6, 3) := by decide +kernel
theorem dL_account_12 : decode cL_account 12 = .ok (.astore_n 3, 1) := by decide +kernel
theorem dL_account_13 : decode cL_account 13 = .ok (.iconst 1, 1) := by decide +kernel
theorem dL_account_14 : decode cL_account 14 = .ok (.ireturn, 1) := by decide +kernel
theorem dL_account_15 : decode cL_account 15 = .ok (.iconst 0, 1) := by decide +kernel
theorem dL_account_16 : decode cL_account 16 = .ok (.ireturn, 1) := by decide +kernel
theorem dL_meanGrade_0 : decode cL_meanGrade 0 = .ok (.aload_n 1, 1) := by decide +kernel
theorem dL_meanGrade_1 : decode cL_meanGrade 1 = .ok (.iconst 0, 1) := by decide +kernel
theorem dL_meanGrade_2 : decode cL_meanGrade 2 = .ok (.aload_n 0, 1) := by decide +kernel
theorem dL_meanGrade_3 : decode cL_meanGrade 3 = .ok (.invokevirtual 106, 3) := by decide +kernel
theorem dL_meanGrade_6 : decode cL_meanGrade 6 = .ok (.dastore, 1) := by decide +kernel
theorem dL_meanGrade_7 : decode cL_meanGrade 7 = .ok (.goto 6, 3) := by decide +kernel
theorem dL_meanGrade_10 : decode cL_meanGrade 10 = .ok (.astore_n 2, 1) := by decide +kernel
theorem dL_meanGrade_11 : decode cL_meanGrade 11 = .ok (.iconst 1, 1) := by decide +kernel
theorem dL_meanGrade_12 : decode cL_meanGrade 12 = .ok (.ireturn, 1) := by decide +kernel
theorem dL_meanGrade_13 : decode cL_meanGrade 13 = .ok (.iconst 0, 1) := by decide +kernel
theorem dL_meanGrade_14 : decode cL_meanGrade 14 = .ok (.ireturn, 1) := by decide +kernel
theorem dL_brokenShare_0 : decode cL_brokenShare 0 = .ok (.aload_n 1, 1) := by decide +kernel
theorem dL_brokenShare_1 : decode cL_brokenShare 1 = .ok (.iconst 0, 1) := by decide +kernel
theorem dL_brokenShare_2 : decode cL_brokenShare 2 = .ok (.aload_n 0, 1) := by decide +kernel
theorem dL_brokenShare_3 : decode cL_brokenShare 3 = .ok (.invokevirtual 112, 3) := by decide +kernel
theorem dL_brokenShare_6 : decode cL_brokenShare 6 = .ok (.f2d, 1) := by decide +kernel
theorem dL_brokenShare_7 : decode cL_brokenShare 7 = .ok (.dastore, 1) := by decide +kernel
theorem dL_brokenShare_8 : decode cL_brokenShare 8 = .ok (.goto 6, 3) := by decide +kernel
theorem dL_brokenShare_11 : decode cL_brokenShare 11 = .ok (.astore_n 2, 1) := by decide +kernel
theorem dL_brokenShare_12 : decode cL_brokenShare 12 = .ok (.iconst 1, 1) := by decide +kernel
theorem dL_brokenShare_13 : decode cL_brokenShare 13 = .ok (.ireturn, 1) := by decide +kernel
theorem dL_brokenShare_14 : decode cL_brokenShare 14 = .ok (.iconst 0, 1) := by decide +kernel
theorem dL_brokenShare_15 : decode cL_brokenShare 15 = .ok (.ireturn, 1) := by decide +kernel
theorem dL_undo_0 : decode cL_undo 0 = .ok (.aload_n 1, 1) := by decide +kernel
theorem dL_undo_1 : decode cL_undo 1 = .ok (.iconst 0, 1) := by decide +kernel
theorem dL_undo_2 : decode cL_undo 2 = .ok (.aload_n 0, 1) := by decide +kernel
theorem dL_undo_3 : decode cL_undo 3 = .ok (.invokevirtual 116, 3) := by decide +kernel
theorem dL_undo_6 : decode cL_undo 6 = .ok (.i2l, 1) := by decide +kernel
theorem dL_undo_7 : decode cL_undo 7 = .ok (.lastore, 1) := by decide +kernel
theorem dL_undo_8 : decode cL_undo 8 = .ok (.goto 6, 3) := by decide +kernel
theorem dL_undo_11 : decode cL_undo 11 = .ok (.astore_n 2, 1) := by decide +kernel
theorem dL_undo_12 : decode cL_undo 12 = .ok (.iconst 1, 1) := by decide +kernel
theorem dL_undo_13 : decode cL_undo 13 = .ok (.ireturn, 1) := by decide +kernel
theorem dL_undo_14 : decode cL_undo 14 = .ok (.iconst 0, 1) := by decide +kernel
theorem dL_undo_15 : decode cL_undo 15 = .ok (.ireturn, 1) := by decide +kernel
theorem dL_restore_0 : decode cL_restore 0 = .ok (.aload_n 1, 1) := by decide +kernel
theorem dL_restore_1 : decode cL_restore 1 = .ok (.iconst 0, 1) := by decide +kernel
theorem dL_restore_2 : decode cL_restore 2 = .ok (.aload_n 0, 1) := by decide +kernel
theorem dL_restore_3 : decode cL_restore 3 = .ok (.invokevirtual 119, 3) := by decide +kernel
theorem dL_restore_6 : decode cL_restore 6 = .ok (.i2l, 1) := by decide +kernel
theorem dL_restore_7 : decode cL_restore 7 = .ok (.lastore, 1) := by decide +kernel
theorem dL_restore_8 : decode cL_restore 8 = .ok (.goto 6, 3) := by decide +kernel
theorem dL_restore_11 : decode cL_restore 11 = .ok (.astore_n 2, 1) := by decide +kernel
theorem dL_restore_12 : decode cL_restore 12 = .ok (.iconst 1, 1) := by decide +kernel
theorem dL_restore_13 : decode cL_restore 13 = .ok (.ireturn, 1) := by decide +kernel
theorem dL_restore_14 : decode cL_restore 14 = .ok (.iconst 0, 1) := by decide +kernel
theorem dL_restore_15 : decode cL_restore 15 = .ok (.ireturn, 1) := by decide +kernel
theorem qkl_545 : Cond.classLink RL 13 "java/lang/IllegalArgumentException" ∈ lw_gd := List.mem_filter.mpr ⟨List.mem_of_getElem? (i := 545) (by decide +kernel), by decide +kernel⟩
theorem qkl_546 : Cond.classLink RL 15 "java/lang/UnsupportedOperationException" ∈ lw_gd := List.mem_filter.mpr ⟨List.mem_of_getElem? (i := 546) (by decide +kernel), by decide +kernel⟩
theorem qkl_660 : Cond.classLink RL 27 "java/lang/IndexOutOfBoundsException" ∈ lw_gd := List.mem_filter.mpr ⟨List.mem_of_getElem? (i := 660) (by decide +kernel), by decide +kernel⟩
theorem qkl_753 : Cond.classLink RL 48 "java/util/NoSuchElementException" ∈ lw_gd := List.mem_filter.mpr ⟨List.mem_of_getElem? (i := 753) (by decide +kernel), by decide +kernel⟩
theorem qkl_897 : Cond.classLink RL 94 "java/lang/IllegalStateException" ∈ lw_gd := List.mem_filter.mpr ⟨List.mem_of_getElem? (i := 897) (by decide +kernel), by decide +kernel⟩
theorem qkl_1065 : Cond.classLink RL 110 "java/lang/ArithmeticException" ∈ lw_gd := List.mem_filter.mpr ⟨List.mem_of_getElem? (i := 1065) (by decide +kernel), by decide +kernel⟩
theorem qkc_13 : Cond.castable "java/lang/IllegalArgumentException" "java/lang/IllegalArgumentException" ∈ lw_ct := by decide +kernel
theorem qkc_15 : Cond.castable "java/lang/UnsupportedOperationException" "java/lang/UnsupportedOperationException" ∈ lw_ct := by decide +kernel
theorem qkc_27 : Cond.castable "java/lang/IndexOutOfBoundsException" "java/lang/IndexOutOfBoundsException" ∈ lw_ct := by decide +kernel
theorem qkc_48 : Cond.castable "java/util/NoSuchElementException" "java/util/NoSuchElementException" ∈ lw_ct := by decide +kernel
theorem qkc_94 : Cond.castable "java/lang/IllegalStateException" "java/lang/IllegalStateException" ∈ lw_ct := by decide +kernel
theorem qkc_110 : Cond.castable "java/lang/ArithmeticException" "java/lang/ArithmeticException" ∈ lw_ct := by decide +kernel
theorem qkl_547 : Cond.methodLink RL 7 yX5_cup ∈ lw_gd := List.mem_filter.mpr ⟨List.mem_of_getElem? (i := 547) (by decide +kernel), by decide +kernel⟩
theorem qkl_646 : Cond.methodLink RL 17 yX5_lamp ∈ lw_gd := List.mem_filter.mpr ⟨List.mem_of_getElem? (i := 646) (by decide +kernel), by decide +kernel⟩
theorem qkl_653 : Cond.methodLink RL 20 yX5_cat ∈ lw_gd := List.mem_filter.mpr ⟨List.mem_of_getElem? (i := 653) (by decide +kernel), by decide +kernel⟩
theorem qkl_684 : Cond.methodLink RL 23 yX5_take ∈ lw_gd := List.mem_filter.mpr ⟨List.mem_of_getElem? (i := 684) (by decide +kernel), by decide +kernel⟩
theorem qkl_704 : Cond.methodLink RL 29 yX5_cue ∈ lw_gd := List.mem_filter.mpr ⟨List.mem_of_getElem? (i := 704) (by decide +kernel), by decide +kernel⟩
theorem qkl_713 : Cond.methodLink RL 32 yX5_set ∈ lw_gd := List.mem_filter.mpr ⟨List.mem_of_getElem? (i := 713) (by decide +kernel), by decide +kernel⟩
theorem qkl_726 : Cond.methodLink RL 35 yX5_add ∈ lw_gd := List.mem_filter.mpr ⟨List.mem_of_getElem? (i := 726) (by decide +kernel), by decide +kernel⟩
theorem qkl_733 : Cond.methodLink RL 38 yX5_perform ∈ lw_gd := List.mem_filter.mpr ⟨List.mem_of_getElem? (i := 733) (by decide +kernel), by decide +kernel⟩
theorem qkl_741 : Cond.methodLink RL 42 yX5_propOf ∈ lw_gd := List.mem_filter.mpr ⟨List.mem_of_getElem? (i := 741) (by decide +kernel), by decide +kernel⟩
theorem qkl_754 : Cond.methodLink RL 45 yX5_programme ∈ lw_gd := List.mem_filter.mpr ⟨List.mem_of_getElem? (i := 754) (by decide +kernel), by decide +kernel⟩
theorem qkl_778 : Cond.methodLink RL 50 yX5_on ∈ lw_gd := List.mem_filter.mpr ⟨List.mem_of_getElem? (i := 778) (by decide +kernel), by decide +kernel⟩
theorem qkl_786 : Cond.methodLink RL 54 yX5_wouldMark ∈ lw_gd := List.mem_filter.mpr ⟨List.mem_of_getElem? (i := 786) (by decide +kernel), by decide +kernel⟩
theorem qkl_796 : Cond.methodLink RL 57 yX5_wouldBreak ∈ lw_gd := List.mem_filter.mpr ⟨List.mem_of_getElem? (i := 796) (by decide +kernel), by decide +kernel⟩
theorem qkl_803 : Cond.methodLink RL 61 yX5_leastBreaking ∈ lw_gd := List.mem_filter.mpr ⟨List.mem_of_getElem? (i := 803) (by decide +kernel), by decide +kernel⟩
theorem qkl_811 : Cond.methodLink RL 64 yX5_shocksFor ∈ lw_gd := List.mem_filter.mpr ⟨List.mem_of_getElem? (i := 811) (by decide +kernel), by decide +kernel⟩
theorem qkl_818 : Cond.methodLink RL 67 yX5_isBroken ∈ lw_gd := List.mem_filter.mpr ⟨List.mem_of_getElem? (i := 818) (by decide +kernel), by decide +kernel⟩
theorem qkl_825 : Cond.methodLink RL 71 yX5_cupAt ∈ lw_gd := List.mem_filter.mpr ⟨List.mem_of_getElem? (i := 825) (by decide +kernel), by decide +kernel⟩
theorem qkl_852 : Cond.methodLink RL 74 yX5_lampAt ∈ lw_gd := List.mem_filter.mpr ⟨List.mem_of_getElem? (i := 852) (by decide +kernel), by decide +kernel⟩
theorem qkl_859 : Cond.methodLink RL 77 yX5_catAt ∈ lw_gd := List.mem_filter.mpr ⟨List.mem_of_getElem? (i := 859) (by decide +kernel), by decide +kernel⟩
theorem qkl_866 : Cond.methodLink RL 80 yX5_onFloor ∈ lw_gd := List.mem_filter.mpr ⟨List.mem_of_getElem? (i := 866) (by decide +kernel), by decide +kernel⟩
theorem qkl_874 : Cond.methodLink RL 83 yX5_line ∈ lw_gd := List.mem_filter.mpr ⟨List.mem_of_getElem? (i := 874) (by decide +kernel), by decide +kernel⟩
theorem qkl_885 : Cond.methodLink RL 86 yX5_character ∈ lw_gd := List.mem_filter.mpr ⟨List.mem_of_getElem? (i := 885) (by decide +kernel), by decide +kernel⟩
theorem qkl_898 : Cond.methodLink RL 90 yX5_append ∈ lw_gd := List.mem_filter.mpr ⟨List.mem_of_getElem? (i := 898) (by decide +kernel), by decide +kernel⟩
theorem qkl_925 : Cond.methodLink RL 96 yX5_run ∈ lw_gd := List.mem_filter.mpr ⟨List.mem_of_getElem? (i := 925) (by decide +kernel), by decide +kernel⟩
theorem qkl_1044 : Cond.methodLink RL 99 yX5_refusal ∈ lw_gd := List.mem_filter.mpr ⟨List.mem_of_getElem? (i := 1044) (by decide +kernel), by decide +kernel⟩
theorem qkl_1052 : Cond.methodLink RL 103 yX5_account ∈ lw_gd := List.mem_filter.mpr ⟨List.mem_of_getElem? (i := 1052) (by decide +kernel), by decide +kernel⟩
theorem qkl_1079 : Cond.methodLink RL 106 yX5_meanGrade ∈ lw_gd := List.mem_filter.mpr ⟨List.mem_of_getElem? (i := 1079) (by decide +kernel), by decide +kernel⟩
theorem qkl_1093 : Cond.methodLink RL 112 yX5_brokenShare ∈ lw_gd := List.mem_filter.mpr ⟨List.mem_of_getElem? (i := 1093) (by decide +kernel), by decide +kernel⟩
theorem qkl_1101 : Cond.methodLink RL 116 yX5_undo ∈ lw_gd := List.mem_filter.mpr ⟨List.mem_of_getElem? (i := 1101) (by decide +kernel), by decide +kernel⟩
theorem qkl_1114 : Cond.methodLink RL 119 yX5_restore ∈ lw_gd := List.mem_filter.mpr ⟨List.mem_of_getElem? (i := 1114) (by decide +kernel), by decide +kernel⟩
