theorem dX6_programmeBreaks_18 : decode cX6_programmeBreaks 18 = .ok (.invokevirtual 153, 3) := by decide +kernel
theorem dX6_programmeBreaks_21 : decode cX6_programmeBreaks 21 = .ok (.aload_n 0, 1) := by decide +kernel
theorem dX6_programmeBreaks_22 : decode cX6_programmeBreaks 22 = .ok (.getfield 9, 3) := by decide +kernel
theorem dX6_programmeBreaks_25 : decode cX6_programmeBreaks 25 = .ok (.iconst 5, 1) := by decide +kernel
theorem dX6_programmeBreaks_26 : decode cX6_programmeBreaks 26 = .ok (.iaload, 1) := by decide +kernel
theorem dX6_programmeBreaks_27 : decode cX6_programmeBreaks 27 = .ok (.istore_n 1, 1) := by decide +kernel
theorem dX6_programmeBreaks_28 : decode cX6_programmeBreaks 28 = .ok (.aload_n 0, 1) := by decide +kernel
theorem dX6_programmeBreaks_29 : decode cX6_programmeBreaks 29 = .ok (.invokevirtual 146, 3) := by decide +kernel
theorem dX6_programmeBreaks_32 : decode cX6_programmeBreaks 32 = .ok (.istore_n 2, 1) := by decide +kernel
theorem dX6_programmeBreaks_33 : decode cX6_programmeBreaks 33 = .ok (.aload_n 0, 1) := by decide +kernel
theorem dX6_programmeBreaks_34 : decode cX6_programmeBreaks 34 = .ok (.getfield 9, 3) := by decide +kernel
theorem dX6_programmeBreaks_37 : decode cX6_programmeBreaks 37 = .ok (.iconst 5, 1) := by decide +kernel
theorem dX6_programmeBreaks_38 : decode cX6_programmeBreaks 38 = .ok (.iaload, 1) := by decide +kernel
theorem dX6_programmeBreaks_39 : decode cX6_programmeBreaks 39 = .ok (.iload_n 1, 1) := by decide +kernel
theorem dX6_programmeBreaks_40 : decode cX6_programmeBreaks 40 = .ok (.isub, 1) := by decide +kernel
theorem dX6_programmeBreaks_41 : decode cX6_programmeBreaks 41 = .ok (.istore_n 3, 1) := by decide +kernel
theorem dX6_programmeBreaks_42 : decode cX6_programmeBreaks 42 = .ok (.aload_n 0, 1) := by decide +kernel
theorem dX6_programmeBreaks_43 : decode cX6_programmeBreaks 43 = .ok (.invokevirtual 156, 3) := by decide +kernel
theorem dX6_programmeBreaks_46 : decode cX6_programmeBreaks 46 = .ok (.iload_n 3, 1) := by decide +kernel
theorem dX6_programmeBreaks_47 : decode cX6_programmeBreaks 47 = .ok (.ireturn, 1) := by decide +kernel
theorem dX6_best_0 : decode cX6_best 0 = .ok (.aload_n 0, 1) := by decide +kernel
theorem dX6_best_1 : decode cX6_best 1 = .ok (.iconst 0, 1) := by decide +kernel
theorem dX6_best_2 : decode cX6_best 2 = .ok (.putfield 39, 3) := by decide +kernel
theorem dX6_best_5 : decode cX6_best 5 = .ok (.iconst 1, 1) := by decide +kernel
theorem dX6_best_6 : decode cX6_best 6 = .ok (.istore_n 1, 1) := by decide +kernel
theorem dX6_best_7 : decode cX6_best 7 = .ok (.iconst 2, 1) := by decide +kernel
theorem dX6_best_8 : decode cX6_best 8 = .ok (.istore_n 2, 1) := by decide +kernel
theorem dX6_best_9 : decode cX6_best 9 = .ok (.iload_n 2, 1) := by decide +kernel
theorem dX6_best_10 : decode cX6_best 10 = .ok (.bipush 9, 2) := by decide +kernel
theorem dX6_best_12 : decode cX6_best 12 = .ok (.if_icmp .gt 30, 3) := by decide +kernel
theorem dX6_best_15 : decode cX6_best 15 = .ok (.aload_n 0, 1) := by decide +kernel
theorem dX6_best_16 : decode cX6_best 16 = .ok (.iload_n 2, 1) := by decide +kernel
theorem dX6_best_17 : decode cX6_best 17 = .ok (.iconst 1, 1) := by decide +kernel
theorem dX6_best_18 : decode cX6_best 18 = .ok (.invokevirtual 159, 3) := by decide +kernel
theorem dX6_best_21 : decode cX6_best 21 = .ok (.aload_n 0, 1) := by decide +kernel
theorem dX6_best_22 : decode cX6_best 22 = .ok (.iload_n 1, 1) := by decide +kernel
theorem dX6_best_23 : decode cX6_best 23 = .ok (.iconst 1, 1) := by decide +kernel
theorem dX6_best_24 : decode cX6_best 24 = .ok (.invokevirtual 159, 3) := by decide +kernel
theorem dX6_best_27 : decode cX6_best 27 = .ok (.if_icmp .le 7, 3) := by decide +kernel
theorem dX6_best_30 : decode cX6_best 30 = .ok (.iload_n 2, 1) := by decide +kernel
theorem dX6_best_31 : decode cX6_best 31 = .ok (.goto 4, 3) := by decide +kernel
theorem dX6_best_34 : decode cX6_best 34 = .ok (.iload_n 1, 1) := by decide +kernel
theorem dX6_best_35 : decode cX6_best 35 = .ok (.istore_n 1, 1) := by decide +kernel
theorem dX6_best_36 : decode cX6_best 36 = .ok (.iinc 2 1, 3) := by decide +kernel
theorem dX6_best_39 : decode cX6_best 39 = .ok (.goto (-30), 3) := by decide +kernel
theorem dX6_best_42 : decode cX6_best 42 = .ok (.iload_n 1, 1) := by decide +kernel
theorem dX6_best_43 : decode cX6_best 43 = .ok (.ireturn, 1) := by decide +kernel
theorem dX6_leastBreaking_0 : decode cX6_leastBreaking 0 = .ok (.iconst 1, 1) := by decide +kernel
theorem dX6_leastBreaking_1 : decode cX6_leastBreaking 1 = .ok (.istore_n 1, 1) := by decide +kernel
theorem dX6_leastBreaking_2 : decode cX6_leastBreaking 2 = .ok (.iload_n 1, 1) := by decide +kernel
theorem dX6_leastBreaking_3 : decode cX6_leastBreaking 3 = .ok (.bipush 9, 2) := by decide +kernel
theorem dX6_leastBreaking_5 : decode cX6_leastBreaking 5 = .ok (.if_icmp .gt 25, 3) := by decide +kernel
theorem dX6_leastBreaking_8 : decode cX6_leastBreaking 8 = .ok (.aload_n 0, 1) := by decide +kernel
theorem dX6_leastBreaking_9 : decode cX6_leastBreaking 9 = .ok (.iload_n 1, 1) := by decide +kernel
theorem dX6_leastBreaking_10 : decode cX6_leastBreaking 10 = .ok (.iconst 0, 1) := by decide +kernel
theorem dX6_leastBreaking_11 : decode cX6_leastBreaking 11 = .ok (.invokevirtual 159, 3) := by decide +kernel
theorem dX6_leastBreaking_14 : decode cX6_leastBreaking 14 = .ok (.ifCond .le 10, 3) := by decide +kernel
theorem dX6_leastBreaking_17 : decode cX6_leastBreaking 17 = .ok (.aload_n 0, 1) := by decide +kernel
theorem dX6_leastBreaking_18 : decode cX6_leastBreaking 18 = .ok (.iconst 0, 1) := by decide +kernel
theorem dX6_leastBreaking_19 : decode cX6_leastBreaking 19 = .ok (.putfield 39, 3) := by decide +kernel
theorem dX6_leastBreaking_22 : decode cX6_leastBreaking 22 = .ok (.iload_n 1, 1) := by decide +kernel
theorem dX6_leastBreaking_23 : decode cX6_leastBreaking 23 = .ok (.ireturn, 1) := by decide +kernel
theorem dX6_leastBreaking_24 : decode cX6_leastBreaking 24 = .ok (.iinc 1 1, 3) := by decide +kernel
theorem dX6_leastBreaking_27 : decode cX6_leastBreaking 27 = .ok (.goto (-25), 3) := by decide +kernel
theorem dX6_leastBreaking_30 : decode cX6_leastBreaking 30 = .ok (.aload_n 0, 1) := by decide +kernel
theorem dX6_leastBreaking_31 : decode cX6_leastBreaking 31 = .ok (.iconst 1, 1) := by decide +kernel
theorem dX6_leastBreaking_32 : decode cX6_leastBreaking 32 = .ok (.invokevirtual 73, 3) := by decide +kernel
theorem dX6_leastBreaking_35 : decode cX6_leastBreaking 35 = .ok (.ireturn, 1) := by decide +kernel
theorem dX6_shocksFor_0 : decode cX6_shocksFor 0 = .ok (.aload_n 0, 1) := by decide +kernel
theorem dX6_shocksFor_1 : decode cX6_shocksFor 1 = .ok (.aload_n 0, 1) := by decide +kernel
theorem dX6_shocksFor_2 : decode cX6_shocksFor 2 = .ok (.iload_n 1, 1) := by decide +kernel
theorem dX6_shocksFor_3 : decode cX6_shocksFor 3 = .ok (.invokevirtual 97, 3) := by decide +kernel
theorem dX6_shocksFor_6 : decode cX6_shocksFor 6 = .ok (.ifCond .eq 7, 3) := by decide +kernel
theorem dX6_shocksFor_9 : decode cX6_shocksFor 9 = .ok (.iconst 0, 1) := by decide +kernel
theorem dX6_shocksFor_10 : decode cX6_shocksFor 10 = .ok (.goto 4, 3) := by decide +kernel
theorem dX6_shocksFor_13 : decode cX6_shocksFor 13 = .ok (.iconst 1, 1) := by decide +kernel
theorem dX6_shocksFor_14 : decode cX6_shocksFor 14 = .ok (.putfield 39, 3) := by decide +kernel
theorem dX6_shocksFor_17 : decode cX6_shocksFor 17 = .ok (.aload_n 0, 1) := by decide +kernel
theorem dX6_shocksFor_18 : decode cX6_shocksFor 18 = .ok (.getfield 39, 3) := by decide +kernel
theorem dX6_shocksFor_21 : decode cX6_shocksFor 21 = .ok (.ifCond .gt 13, 3) := by decide +kernel
theorem dX6_shocksFor_24 : decode cX6_shocksFor 24 = .ok (.aload_n 0, 1) := by decide +kernel
theorem dX6_shocksFor_25 : decode cX6_shocksFor 25 = .ok (.iload_n 1, 1) := by decide +kernel
theorem dX6_shocksFor_26 : decode cX6_shocksFor 26 = .ok (.iconst 4, 1) := by decide +kernel
theorem dX6_shocksFor_27 : decode cX6_shocksFor 27 = .ok (.invokevirtual 65, 3) := by decide +kernel
theorem dX6_shocksFor_30 : decode cX6_shocksFor 30 = .ok (.iconst 1, 1) := by decide +kernel
theorem dX6_shocksFor_31 : decode cX6_shocksFor 31 = .ok (.if_icmp .ne 5, 3) := by decide +kernel
theorem dX6_shocksFor_34 : decode cX6_shocksFor 34 = .ok (.iconst 0, 1) := by decide +kernel
theorem dX6_shocksFor_35 : decode cX6_shocksFor 35 = .ok (.ireturn, 1) := by decide +kernel
theorem dX6_shocksFor_36 : decode cX6_shocksFor 36 = .ok (.aload_n 0, 1) := by decide +kernel
theorem dX6_shocksFor_37 : decode cX6_shocksFor 37 = .ok (.invokevirtual 153, 3) := by decide +kernel
theorem dX6_shocksFor_40 : decode cX6_shocksFor 40 = .ok (.iconst 0, 1) := by decide +kernel
theorem dX6_shocksFor_41 : decode cX6_shocksFor 41 = .ok (.istore_n 2, 1) := by decide +kernel
theorem dX6_shocksFor_42 : decode cX6_shocksFor 42 = .ok (.iload_n 2, 1) := by decide +kernel
theorem dX6_shocksFor_43 : decode cX6_shocksFor 43 = .ok (.bipush 30, 2) := by decide +kernel
theorem dX6_shocksFor_45 : decode cX6_shocksFor 45 = .ok (.if_icmp .ge 29, 3) := by decide +kernel
theorem dX6_shocksFor_48 : decode cX6_shocksFor 48 = .ok (.aload_n 0, 1) := by decide +kernel
theorem dX6_shocksFor_49 : decode cX6_shocksFor 49 = .ok (.iload_n 1, 1) := by decide +kernel
theorem dX6_shocksFor_50 : decode cX6_shocksFor 50 = .ok (.iconst 4, 1) := by decide +kernel
theorem dX6_shocksFor_51 : decode cX6_shocksFor 51 = .ok (.invokevirtual 65, 3) := by decide +kernel
theorem dX6_shocksFor_54 : decode cX6_shocksFor 54 = .ok (.ifCond .ne 20, 3) := by decide +kernel
theorem dX6_shocksFor_57 : decode cX6_shocksFor 57 = .ok (.aload_n 0, 1) := by decide +kernel
theorem dX6_shocksFor_58 : decode cX6_shocksFor 58 = .ok (.aload_n 0, 1) := by decide +kernel
theorem dX6_shocksFor_59 : decode cX6_shocksFor 59 = .ok (.getfield 9, 3) := by decide +kernel
theorem dX6_shocksFor_62 : decode cX6_shocksFor 62 = .ok (.iconst 1, 1) := by decide +kernel
theorem dX6_shocksFor_63 : decode cX6_shocksFor 63 = .ok (.iaload, 1) := by decide +kernel
theorem dX6_shocksFor_64 : decode cX6_shocksFor 64 = .ok (.invokevirtual 137, 3) := by decide +kernel
theorem dX6_shocksFor_67 : decode cX6_shocksFor 67 = .ok (.istore_n 3, 1) := by decide +kernel
theorem dX6_shocksFor_68 : decode cX6_shocksFor 68 = .ok (.iinc 2 1, 3) := by decide +kernel
theorem dX6_shocksFor_71 : decode cX6_shocksFor 71 = .ok (.goto (-29), 3) := by decide +kernel
theorem dX6_shocksFor_74 : decode cX6_shocksFor 74 = .ok (.aload_n 0, 1) := by decide +kernel
theorem dX6_shocksFor_75 : decode cX6_shocksFor 75 = .ok (.iload_n 1, 1) := by decide +kernel
theorem dX6_shocksFor_76 : decode cX6_shocksFor 76 = .ok (.iconst 4, 1) := by decide +kernel
theorem dX6_shocksFor_77 : decode cX6_shocksFor 77 = .ok (.invokevirtual 65, 3) := by decide +kernel
theorem dX6_shocksFor_80 : decode cX6_shocksFor 80 = .ok (.iconst 1, 1) := by decide +kernel
theorem dX6_shocksFor_81 : decode cX6_shocksFor 81 = .ok (.if_icmp .ne 7, 3) := by decide +kernel
theorem dX6_shocksFor_84 : decode cX6_shocksFor 84 = .ok (.iconst 1, 1) := by decide +kernel
theorem dX6_shocksFor_85 : decode cX6_shocksFor 85 = .ok (.goto 4, 3) := by decide +kernel
theorem dX6_shocksFor_88 : decode cX6_shocksFor 88 = .ok (.iconst 0, 1) := by decide +kernel
theorem dX6_shocksFor_89 : decode cX6_shocksFor 89 = .ok (.istore_n 3, 1) := by decide +kernel
theorem dX6_shocksFor_90 : decode cX6_shocksFor 90 = .ok (.aload_n 0, 1) := by decide +kernel
theorem dX6_shocksFor_91 : decode cX6_shocksFor 91 = .ok (.invokevirtual 156, 3) := by decide +kernel
theorem dX6_shocksFor_94 : decode cX6_shocksFor 94 = .ok (.iload_n 3, 1) := by decide +kernel
theorem dX6_shocksFor_95 : decode cX6_shocksFor 95 = .ok (.ifCond .eq 7, 3) := by decide +kernel
theorem dX6_shocksFor_98 : decode cX6_shocksFor 98 = .ok (.iload_n 2, 1) := by decide +kernel
theorem dX6_shocksFor_99 : decode cX6_shocksFor 99 = .ok (.goto 4, 3) := by decide +kernel
theorem dX6_shocksFor_102 : decode cX6_shocksFor 102 = .ok (.iconst 0, 1) := by decide +kernel
theorem dX6_shocksFor_103 : decode cX6_shocksFor 103 = .ok (.ireturn, 1) := by decide +kernel
theorem dX6_isBroken_0 : decode cX6_isBroken 0 = .ok (.aload_n 0, 1) := by decide +kernel
theorem dX6_isBroken_1 : decode cX6_isBroken 1 = .ok (.aload_n 0, 1) := by decide +kernel
theorem dX6_isBroken_2 : decode cX6_isBroken 2 = .ok (.iload_n 1, 1) := by decide +kernel
theorem dX6_isBroken_3 : decode cX6_isBroken 3 = .ok (.invokevirtual 97, 3) := by decide +kernel
theorem dX6_isBroken_6 : decode cX6_isBroken 6 = .ok (.ifCond .eq 7, 3) := by decide +kernel
theorem dX6_isBroken_9 : decode cX6_isBroken 9 = .ok (.iconst 0, 1) := by decide +kernel
theorem dX6_isBroken_10 : decode cX6_isBroken 10 = .ok (.goto 4, 3) := by decide +kernel
theorem dX6_isBroken_13 : decode cX6_isBroken 13 = .ok (.iconst 1, 1) := by decide +kernel
theorem dX6_isBroken_14 : decode cX6_isBroken 14 = .ok (.putfield 39, 3) := by decide +kernel
theorem dX6_isBroken_17 : decode cX6_isBroken 17 = .ok (.aload_n 0, 1) := by decide +kernel
theorem dX6_isBroken_18 : decode cX6_isBroken 18 = .ok (.getfield 39, 3) := by decide +kernel
theorem dX6_isBroken_21 : decode cX6_isBroken 21 = .ok (.ifCond .ne 17, 3) := by decide +kernel
theorem dX6_isBroken_24 : decode cX6_isBroken 24 = .ok (.aload_n 0, 1) := by decide +kernel
theorem dX6_isBroken_25 : decode cX6_isBroken 25 = .ok (.iload_n 1, 1) := by decide +kernel
theorem dX6_isBroken_26 : decode cX6_isBroken 26 = .ok (.iconst 4, 1) := by decide +kernel
theorem dX6_isBroken_27 : decode cX6_isBroken 27 = .ok (.invokevirtual 65, 3) := by decide +kernel
theorem dX6_isBroken_30 : decode cX6_isBroken 30 = .ok (.iconst 1, 1) := by decide +kernel
theorem dX6_isBroken_31 : decode cX6_isBroken 31 = .ok (.if_icmp .ne 7, 3) := by decide +kernel
theorem dX6_isBroken_34 : decode cX6_isBroken 34 = .ok (.iconst 1, 1) := by decide +kernel
theorem dX6_isBroken_35 : decode cX6_isBroken 35 = .ok (.goto 4, 3) := by decide +kernel
theorem dX6_isBroken_38 : decode cX6_isBroken 38 = .ok (.iconst 0, 1) := by decide +kernel
theorem dX6_isBroken_39 : decode cX6_isBroken 39 = .ok (.ireturn, 1) := by decide +kernel
theorem dX6_ahead_0 : decode cX6_ahead 0 = .ok (.iload_n 3, 1) := by decide +kernel
theorem dX6_ahead_1 : decode cX6_ahead 1 = .ok (.iconst 1, 1) := by decide +kernel
theorem dX6_ahead_2 : decode cX6_ahead 2 = .ok (.if_icmp .ne 42, 3) := by decide +kernel
theorem dX6_ahead_5 : decode cX6_ahead 5 = .ok (.aload_n 0, 1) := by decide +kernel
theorem dX6_ahead_6 : decode cX6_ahead 6 = .ok (.iload_n 1, 1) := by decide +kernel
theorem dX6_ahead_7 : decode cX6_ahead 7 = .ok (.iconst 2, 1) := by decide +kernel
theorem dX6_ahead_8 : decode cX6_ahead 8 = .ok (.invokevirtual 65, 3) := by decide +kernel
theorem dX6_ahead_11 : decode cX6_ahead 11 = .ok (.aload_n 0, 1) := by decide +kernel
theorem dX6_ahead_12 : decode cX6_ahead 12 = .ok (.iload_n 2, 1) := by decide +kernel
theorem dX6_ahead_13 : decode cX6_ahead 13 = .ok (.iconst 2, 1) := by decide +kernel
theorem dX6_ahead_14 : decode cX6_ahead 14 = .ok (.invokevirtual 65, 3) := by decide +kernel
theorem dX6_ahead_17 : decode cX6_ahead 17 = .ok (.isub, 1) := by decide +kernel
theorem dX6_ahead_18 : decode cX6_ahead 18 = .ok (.istore 4, 2) := by decide +kernel
theorem dX6_ahead_20 : decode cX6_ahead 20 = .ok (.iload 4, 2) := by decide +kernel
theorem dX6_ahead_22 : decode cX6_ahead 22 = .ok (.ifCond .eq 8, 3) := by decide +kernel
theorem dX6_ahead_25 : decode cX6_ahead 25 = .ok (.iload 4, 2) := by decide +kernel
theorem dX6_ahead_27 : decode cX6_ahead 27 = .ok (.goto 16, 3) := by decide +kernel
theorem dX6_ahead_30 : decode cX6_ahead 30 = .ok (.aload_n 0, 1) := by decide +kernel
theorem dX6_ahead_31 : decode cX6_ahead 31 = .ok (.iload_n 2, 1) := by decide +kernel
theorem dX6_ahead_32 : decode cX6_ahead 32 = .ok (.iconst 3, 1) := by decide +kernel
theorem dX6_ahead_33 : decode cX6_ahead 33 = .ok (.invokevirtual 65, 3) := by decide +kernel
theorem dX6_ahead_36 : decode cX6_ahead 36 = .ok (.aload_n 0, 1) := by decide +kernel
theorem dX6_ahead_37 : decode cX6_ahead 37 = .ok (.iload_n 1, 1) := by decide +kernel
theorem dX6_ahead_38 : decode cX6_ahead 38 = .ok (.iconst 3, 1) := by decide +kernel
theorem dX6_ahead_39 : decode cX6_ahead 39 = .ok (.invokevirtual 65, 3) := by decide +kernel
theorem dX6_ahead_42 : decode cX6_ahead 42 = .ok (.isub, 1) := by decide +kernel
theorem dX6_ahead_43 : decode cX6_ahead 43 = .ok (.ireturn, 1) := by decide +kernel
theorem dX6_ahead_44 : decode cX6_ahead 44 = .ok (.iload_n 3, 1) := by decide +kernel
theorem dX6_ahead_45 : decode cX6_ahead 45 = .ok (.iconst 2, 1) := by decide +kernel
theorem dX6_ahead_46 : decode cX6_ahead 46 = .ok (.if_icmp .ne 42, 3) := by decide +kernel
theorem dX6_ahead_49 : decode cX6_ahead 49 = .ok (.aload_n 0, 1) := by decide +kernel
theorem dX6_ahead_50 : decode cX6_ahead 50 = .ok (.iload_n 1, 1) := by decide +kernel
theorem dX6_ahead_51 : decode cX6_ahead 51 = .ok (.iconst 3, 1) := by decide +kernel
theorem dX6_ahead_52 : decode cX6_ahead 52 = .ok (.invokevirtual 65, 3) := by decide +kernel
theorem dX6_ahead_55 : decode cX6_ahead 55 = .ok (.aload_n 0, 1) := by decide +kernel
theorem dX6_ahead_56 : decode cX6_ahead 56 = .ok (.iload_n 2, 1) := by decide +kernel
theorem dX6_ahead_57 : decode cX6_ahead 57 = .ok (.iconst 3, 1) := by decide +kernel
theorem dX6_ahead_58 : decode cX6_ahead 58 = .ok (.invokevirtual 65, 3) := by decide +kernel
theorem dX6_ahead_61 : decode cX6_ahead 61 = .ok (.isub, 1) := by decide +kernel
theorem dX6_ahead_62 : decode cX6_ahead 62 = .ok (.istore 4, 2) := by decide +kernel
theorem dX6_ahead_64 : decode cX6_ahead 64 = .ok (.iload 4, 2) := by decide +kernel
theorem dX6_ahead_66 : decode cX6_ahead 66 = .ok (.ifCond .eq 8, 3) := by decide +kernel
theorem dX6_ahead_69 : decode cX6_ahead 69 = .ok (.iload 4, 2) := by decide +kernel
theorem dX6_ahead_71 : decode cX6_ahead 71 = .ok (.goto 16, 3) := by decide +kernel
theorem dX6_ahead_74 : decode cX6_ahead 74 = .ok (.aload_n 0, 1) := by decide +kernel
theorem dX6_ahead_75 : decode cX6_ahead 75 = .ok (.iload_n 1, 1) := by decide +kernel
theorem dX6_ahead_76 : decode cX6_ahead 76 = .ok (.iconst 2, 1) := by decide +kernel
theorem dX6_ahead_77 : decode cX6_ahead 77 = .ok (.invokevirtual 65, 3) := by decide +kernel
theorem dX6_ahead_80 : decode cX6_ahead 80 = .ok (.aload_n 0, 1) := by decide +kernel
theorem dX6_ahead_81 : decode cX6_ahead 81 = .ok (.iload_n 2, 1) := by decide +kernel
theorem dX6_ahead_82 : decode cX6_ahead 82 = .ok (.iconst 2, 1) := by decide +kernel
theorem dX6_ahead_83 : decode cX6_ahead 83 = .ok (.invokevirtual 65, 3) := by decide +kernel
theorem dX6_ahead_86 : decode cX6_ahead 86 = .ok (.isub, 1) := by decide +kernel
theorem dX6_ahead_87 : decode cX6_ahead 87 = .ok (.ireturn, 1) := by decide +kernel
theorem dX6_ahead_88 : decode cX6_ahead 88 = .ok (.aload_n 0, 1) := by decide +kernel
theorem dX6_ahead_89 : decode cX6_ahead 89 = .ok (.iload_n 1, 1) := by decide +kernel
theorem dX6_ahead_90 : decode cX6_ahead 90 = .ok (.bipush 6, 2) := by decide +kernel
theorem dX6_ahead_92 : decode cX6_ahead 92 = .ok (.invokevirtual 65, 3) := by decide +kernel
theorem dX6_ahead_95 : decode cX6_ahead 95 = .ok (.aload_n 0, 1) := by decide +kernel
theorem dX6_ahead_96 : decode cX6_ahead 96 = .ok (.iload_n 2, 1) := by decide +kernel
theorem dX6_ahead_97 : decode cX6_ahead 97 = .ok (.bipush 6, 2) := by decide +kernel
theorem dX6_ahead_99 : decode cX6_ahead 99 = .ok (.invokevirtual 65, 3) := by decide +kernel
theorem dX6_ahead_102 : decode cX6_ahead 102 = .ok (.isub, 1) := by decide +kernel
theorem dX6_ahead_103 : decode cX6_ahead 103 = .ok (.ireturn, 1) := by decide +kernel
theorem dX6_placed_0 : decode cX6_placed 0 = .ok (.aload_n 0, 1) := by decide +kernel
theorem dX6_placed_1 : decode cX6_placed 1 = .ok (.iload_n 2, 1) := by decide +kernel
theorem dX6_placed_2 : decode cX6_placed 2 = .ok (.iconst 0, 1) := by decide +kernel
theorem dX6_placed_3 : decode cX6_placed 3 = .ok (.aload_n 0, 1) := by decide +kernel
theorem dX6_placed_4 : decode cX6_placed 4 = .ok (.iload_n 1, 1) := by decide +kernel
theorem dX6_placed_5 : decode cX6_placed 5 = .ok (.invokevirtual 143, 3) := by decide +kernel
theorem dX6_placed_8 : decode cX6_placed 8 = .ok (.iconst 1, 1) := by decide +kernel
theorem dX6_placed_9 : decode cX6_placed 9 = .ok (.isub, 1) := by decide +kernel
theorem dX6_placed_10 : decode cX6_placed 10 = .ok (.invokestatic 61, 3) := by decide +kernel
theorem dX6_placed_13 : decode cX6_placed 13 = .ok (.ifCond .eq 7, 3) := by decide +kernel
theorem dX6_placed_16 : decode cX6_placed 16 = .ok (.iconst 0, 1) := by decide +kernel
theorem dX6_placed_17 : decode cX6_placed 17 = .ok (.goto 4, 3) := by decide +kernel
theorem dX6_placed_20 : decode cX6_placed 20 = .ok (.iconst 1, 1) := by decide +kernel
theorem dX6_placed_21 : decode cX6_placed 21 = .ok (.putfield 39, 3) := by decide +kernel
theorem dX6_placed_24 : decode cX6_placed 24 = .ok (.iconst 0, 1) := by decide +kernel
theorem dX6_placed_25 : decode cX6_placed 25 = .ok (.istore_n 3, 1) := by decide +kernel
theorem dX6_placed_26 : decode cX6_placed 26 = .ok (.iconst 0, 1) := by decide +kernel
theorem dX6_placed_27 : decode cX6_placed 27 = .ok (.istore 4, 2) := by decide +kernel
theorem dX6_placed_29 : decode cX6_placed 29 = .ok (.iload 4, 2) := by decide +kernel
theorem dX6_placed_31 : decode cX6_placed 31 = .ok (.aload_n 0, 1) := by decide +kernel
theorem dX6_placed_32 : decode cX6_placed 32 = .ok (.getfield 9, 3) := by decide +kernel
theorem dX6_placed_35 : decode cX6_placed 35 = .ok (.iconst 0, 1) := by decide +kernel
theorem dX6_placed_36 : decode cX6_placed 36 = .ok (.iaload, 1) := by decide +kernel
theorem dX6_placed_37 : decode cX6_placed 37 = .ok (.if_icmp .ge 116, 3) := by decide +kernel
theorem dX6_placed_40 : decode cX6_placed 40 = .ok (.aload_n 0, 1) := by decide +kernel
theorem dX6_placed_41 : decode cX6_placed 41 = .ok (.getfield 39, 3) := by decide +kernel
theorem dX6_placed_44 : decode cX6_placed 44 = .ok (.ifCond .ne 109, 3) := by decide +kernel
theorem dX6_placed_47 : decode cX6_placed 47 = .ok (.iconst 0, 1) := by decide +kernel
theorem dX6_placed_48 : decode cX6_placed 48 = .ok (.istore 5, 2) := by decide +kernel
theorem dX6_placed_50 : decode cX6_placed 50 = .ok (.iconst 0, 1) := by decide +kernel
theorem dX6_placed_51 : decode cX6_placed 51 = .ok (.istore 6, 2) := by decide +kernel
theorem dX6_placed_53 : decode cX6_placed 53 = .ok (.iload 6, 2) := by decide +kernel
theorem dX6_placed_55 : decode cX6_placed 55 = .ok (.aload_n 0, 1) := by decide +kernel
theorem dX6_placed_56 : decode cX6_placed 56 = .ok (.getfield 9, 3) := by decide +kernel
theorem dX6_placed_59 : decode cX6_placed 59 = .ok (.iconst 0, 1) := by decide +kernel
theorem dX6_placed_60 : decode cX6_placed 60 = .ok (.iaload, 1) := by decide +kernel
theorem dX6_placed_61 : decode cX6_placed 61 = .ok (.if_icmp .ge 62, 3) := by decide +kernel
theorem dX6_placed_64 : decode cX6_placed 64 = .ok (.aload_n 0, 1) := by decide +kernel
theorem dX6_placed_65 : decode cX6_placed 65 = .ok (.iload 6, 2) := by decide +kernel
theorem dX6_placed_67 : decode cX6_placed 67 = .ok (.iconst 0, 1) := by decide +kernel
theorem dX6_placed_68 : decode cX6_placed 68 = .ok (.invokevirtual 65, 3) := by decide +kernel
theorem dX6_placed_71 : decode cX6_placed 71 = .ok (.iload_n 1, 1) := by decide +kernel
theorem dX6_placed_72 : decode cX6_placed 72 = .ok (.if_icmp .ne 15, 3) := by decide +kernel
theorem dX6_placed_75 : decode cX6_placed 75 = .ok (.aload_n 0, 1) := by decide +kernel
theorem dX6_placed_76 : decode cX6_placed 76 = .ok (.iload 6, 2) := by decide +kernel
theorem dX6_placed_78 : decode cX6_placed 78 = .ok (.iload 4, 2) := by decide +kernel
theorem dX6_placed_80 : decode cX6_placed 80 = .ok (.iload_n 1, 1) := by decide +kernel
theorem dX6_placed_81 : decode cX6_placed 81 = .ok (.invokevirtual 163, 3) := by decide +kernel
theorem dX6_placed_84 : decode cX6_placed 84 = .ok (.goto 4, 3) := by decide +kernel
theorem dX6_placed_87 : decode cX6_placed 87 = .ok (.iconst (-1), 1) := by decide +kernel
theorem dX6_placed_88 : decode cX6_placed 88 = .ok (.istore 7, 2) := by decide +kernel
theorem dX6_placed_90 : decode cX6_placed 90 = .ok (.iload 5, 2) := by decide +kernel
theorem dX6_placed_92 : decode cX6_placed 92 = .ok (.iload 7, 2) := by decide +kernel
theorem dX6_placed_94 : decode cX6_placed 94 = .ok (.ifCond .gt 15, 3) := by decide +kernel
theorem dX6_placed_97 : decode cX6_placed 97 = .ok (.iload 7, 2) := by decide +kernel
theorem dX6_placed_99 : decode cX6_placed 99 = .ok (.ifCond .ne 14, 3) := by decide +kernel
theorem dX6_placed_102 : decode cX6_placed 102 = .ok (.iload 6, 2) := by decide +kernel
theorem dX6_placed_104 : decode cX6_placed 104 = .ok (.iload 4, 2) := by decide +kernel
theorem dX6_placed_106 : decode cX6_placed 106 = .ok (.if_icmp .ge 7, 3) := by decide +kernel
theorem dX6_placed_109 : decode cX6_placed 109 = .ok (.iconst 1, 1) := by decide +kernel
theorem dX6_placed_110 : decode cX6_placed 110 = .ok (.goto 4, 3) := by decide +kernel
theorem dX6_placed_113 : decode cX6_placed 113 = .ok (.iconst 0, 1) := by decide +kernel
theorem dX6_placed_114 : decode cX6_placed 114 = .ok (.iadd, 1) := by decide +kernel
theorem dX6_placed_115 : decode cX6_placed 115 = .ok (.istore 5, 2) := by decide +kernel
theorem dX6_placed_117 : decode cX6_placed 117 = .ok (.iinc 6 1, 3) := by decide +kernel
theorem dX6_placed_120 : decode cX6_placed 120 = .ok (.goto (-67), 3) := by decide +kernel
theorem dX6_placed_123 : decode cX6_placed 123 = .ok (.aload_n 0, 1) := by decide +kernel
theorem dX6_placed_124 : decode cX6_placed 124 = .ok (.iload 4, 2) := by decide +kernel
theorem dX6_placed_126 : decode cX6_placed 126 = .ok (.iconst 0, 1) := by decide +kernel
theorem dX6_placed_127 : decode cX6_placed 127 = .ok (.invokevirtual 65, 3) := by decide +kernel
theorem dX6_placed_130 : decode cX6_placed 130 = .ok (.iload_n 1, 1) := by decide +kernel
theorem dX6_placed_131 : decode cX6_placed 131 = .ok (.if_icmp .ne 14, 3) := by decide +kernel
theorem dX6_placed_134 : decode cX6_placed 134 = .ok (.iload 5, 2) := by decide +kernel
theorem dX6_placed_136 : decode cX6_placed 136 = .ok (.iload_n 2, 1) := by decide +kernel
theorem dX6_placed_137 : decode cX6_placed 137 = .ok (.if_icmp .ne 8, 3) := by decide +kernel
theorem dX6_placed_140 : decode cX6_placed 140 = .ok (.iload 4, 2) := by decide +kernel
theorem dX6_placed_142 : decode cX6_placed 142 = .ok (.goto 4, 3) := by decide +kernel
theorem dX6_placed_145 : decode cX6_placed 145 = .ok (.iload_n 3, 1) := by decide +kernel
theorem dX6_placed_146 : decode cX6_placed 146 = .ok (.istore_n 3, 1) := by decide +kernel
theorem dX6_placed_147 : decode cX6_placed 147 = .ok (.iinc 4 1, 3) := by decide +kernel
theorem dX6_placed_150 : decode cX6_placed 150 = .ok (.goto (-121), 3) := by decide +kernel
theorem dX6_placed_153 : decode cX6_placed 153 = .ok (.iload_n 3, 1) := by decide +kernel
theorem dX6_placed_154 : decode cX6_placed 154 = .ok (.ireturn, 1) := by decide +kernel
theorem dX6_cupAt_0 : decode cX6_cupAt 0 = .ok (.aload_n 0, 1) := by decide +kernel
theorem dX6_cupAt_1 : decode cX6_cupAt 1 = .ok (.iconst 1, 1) := by decide +kernel
theorem dX6_cupAt_2 : decode cX6_cupAt 2 = .ok (.iload_n 1, 1) := by decide +kernel
theorem dX6_cupAt_3 : decode cX6_cupAt 3 = .ok (.invokevirtual 166, 3) := by decide +kernel
theorem dX6_cupAt_6 : decode cX6_cupAt 6 = .ok (.ireturn, 1) := by decide +kernel
theorem dX6_lampAt_0 : decode cX6_lampAt 0 = .ok (.aload_n 0, 1) := by decide +kernel
theorem dX6_lampAt_1 : decode cX6_lampAt 1 = .ok (.iconst 2, 1) := by decide +kernel
theorem dX6_lampAt_2 : decode cX6_lampAt 2 = .ok (.iload_n 1, 1) := by decide +kernel
theorem dX6_lampAt_3 : decode cX6_lampAt 3 = .ok (.invokevirtual 166, 3) := by decide +kernel
theorem dX6_lampAt_6 : decode cX6_lampAt 6 = .ok (.ireturn, 1) := by decide +kernel
theorem dX6_catAt_0 : decode cX6_catAt 0 = .ok (.aload_n 0, 1) := by decide +kernel
theorem dX6_catAt_1 : decode cX6_catAt 1 = .ok (.iconst 3, 1) := by decide +kernel
theorem dX6_catAt_2 : decode cX6_catAt 2 = .ok (.iload_n 1, 1) := by decide +kernel
theorem dX6_catAt_3 : decode cX6_catAt 3 = .ok (.invokevirtual 166, 3) := by decide +kernel
theorem dX6_catAt_6 : decode cX6_catAt 6 = .ok (.ireturn, 1) := by decide +kernel
theorem dX6_onFloor_0 : decode cX6_onFloor 0 = .ok (.aload_n 0, 1) := by decide +kernel
theorem dX6_onFloor_1 : decode cX6_onFloor 1 = .ok (.iload_n 1, 1) := by decide +kernel
theorem dX6_onFloor_2 : decode cX6_onFloor 2 = .ok (.iconst 1, 1) := by decide +kernel
theorem dX6_onFloor_3 : decode cX6_onFloor 3 = .ok (.iconst 3, 1) := by decide +kernel
theorem dX6_onFloor_4 : decode cX6_onFloor 4 = .ok (.invokestatic 61, 3) := by decide +kernel
theorem dX6_onFloor_7 : decode cX6_onFloor 7 = .ok (.ifCond .eq 14, 3) := by decide +kernel
theorem dX6_onFloor_10 : decode cX6_onFloor 10 = .ok (.iload_n 2, 1) := by decide +kernel
theorem dX6_onFloor_11 : decode cX6_onFloor 11 = .ok (.invokestatic 69, 3) := by decide +kernel
theorem dX6_onFloor_14 : decode cX6_onFloor 14 = .ok (.ifCond .eq 7, 3) := by decide +kernel
theorem dX6_onFloor_17 : decode cX6_onFloor 17 = .ok (.iconst 0, 1) := by decide +kernel
theorem dX6_onFloor_18 : decode cX6_onFloor 18 = .ok (.goto 4, 3) := by decide +kernel
theorem dX6_onFloor_21 : decode cX6_onFloor 21 = .ok (.iconst 1, 1) := by decide +kernel
theorem dX6_onFloor_22 : decode cX6_onFloor 22 = .ok (.putfield 39, 3) := by decide +kernel
theorem dX6_onFloor_25 : decode cX6_onFloor 25 = .ok (.aload_n 0, 1) := by decide +kernel
theorem dX6_onFloor_26 : decode cX6_onFloor 26 = .ok (.getfield 39, 3) := by decide +kernel
theorem dX6_onFloor_29 : decode cX6_onFloor 29 = .ok (.ifCond .le 7, 3) := by decide +kernel
theorem dX6_onFloor_32 : decode cX6_onFloor 32 = .ok (.iconst 0, 1) := by decide +kernel
theorem dX6_onFloor_33 : decode cX6_onFloor 33 = .ok (.goto 9, 3) := by decide +kernel
theorem dX6_onFloor_36 : decode cX6_onFloor 36 = .ok (.aload_n 0, 1) := by decide +kernel
theorem dX6_onFloor_37 : decode cX6_onFloor 37 = .ok (.iload_n 1, 1) := by decide +kernel
theorem dX6_onFloor_38 : decode cX6_onFloor 38 = .ok (.iload_n 2, 1) := by decide +kernel
theorem dX6_onFloor_39 : decode cX6_onFloor 39 = .ok (.invokevirtual 81, 3) := by decide +kernel
theorem dX6_onFloor_42 : decode cX6_onFloor 42 = .ok (.ireturn, 1) := by decide +kernel
theorem dX6_says_0 : decode cX6_says 0 = .ok (.aload_n 0, 1) := by decide +kernel
theorem dX6_says_1 : decode cX6_says 1 = .ok (.getfield 25, 3) := by decide +kernel
theorem dX6_says_4 : decode cX6_says 4 = .ok (.aload_n 0, 1) := by decide +kernel
theorem dX6_says_5 : decode cX6_says 5 = .ok (.getfield 169, 3) := by decide +kernel
theorem dX6_says_8 : decode cX6_says 8 = .ok (.iload_n 1, 1) := by decide +kernel
theorem dX6_says_9 : decode cX6_says 9 = .ok (.castore, 1) := by decide +kernel
theorem dX6_says_10 : decode cX6_says 10 = .ok (.aload_n 0, 1) := by decide +kernel
theorem dX6_says_11 : decode cX6_says 11 = .ok (.dup, 1) := by decide +kernel
theorem dX6_says_12 : decode cX6_says 12 = .ok (.getfield 169, 3) := by decide +kernel
theorem dX6_says_15 : decode cX6_says 15 = .ok (.iconst 1, 1) := by decide +kernel
theorem dX6_says_16 : decode cX6_says 16 = .ok (.iadd, 1) := by decide +kernel
theorem dX6_says_17 : decode cX6_says 17 = .ok (.putfield 169, 3) := by decide +kernel
theorem dX6_says_20 : decode cX6_says 20 = .ok (.return_, 1) := by decide +kernel
theorem dX6_saysNumber_0 : decode cX6_saysNumber 0 = .ok (.iload_n 1, 1) := by decide +kernel
theorem dX6_saysNumber_1 : decode cX6_saysNumber 1 = .ok (.bipush 9, 2) := by decide +kernel
theorem dX6_saysNumber_3 : decode cX6_saysNumber 3 = .ok (.if_icmp .le 11, 3) := by decide +kernel
theorem dX6_saysNumber_6 : decode cX6_saysNumber 6 = .ok (.aload_n 0, 1) := by decide +kernel
theorem dX6_saysNumber_7 : decode cX6_saysNumber 7 = .ok (.iload_n 1, 1) := by decide +kernel
theorem dX6_saysNumber_8 : decode cX6_saysNumber 8 = .ok (.bipush 10, 2) := by decide +kernel
theorem dX6_saysNumber_10 : decode cX6_saysNumber 10 = .ok (.idiv, 1) := by decide +kernel
theorem dX6_saysNumber_11 : decode cX6_saysNumber 11 = .ok (.invokevirtual 172, 3) := by decide +kernel
theorem dX6_saysNumber_14 : decode cX6_saysNumber 14 = .ok (.aload_n 0, 1) := by decide +kernel
theorem dX6_saysNumber_15 : decode cX6_saysNumber 15 = .ok (.bipush 48, 2) := by decide +kernel
theorem dX6_saysNumber_17 : decode cX6_saysNumber 17 = .ok (.iload_n 1, 1) := by decide +kernel
theorem dX6_saysNumber_18 : decode cX6_saysNumber 18 = .ok (.bipush 10, 2) := by decide +kernel
theorem dX6_saysNumber_20 : decode cX6_saysNumber 20 = .ok (.irem, 1) := by decide +kernel
theorem dX6_saysNumber_21 : decode cX6_saysNumber 21 = .ok (.iadd, 1) := by decide +kernel
theorem dX6_saysNumber_22 : decode cX6_saysNumber 22 = .ok (.i2c, 1) := by decide +kernel
theorem dX6_saysNumber_23 : decode cX6_saysNumber 23 = .ok (.invokevirtual 176, 3) := by decide +kernel
theorem dX6_saysNumber_26 : decode cX6_saysNumber 26 = .ok (.return_, 1) := by decide +kernel
theorem dX6_saysValue_0 : decode cX6_saysValue 0 = .ok (.aload_n 0, 1) := by decide +kernel
theorem dX6_saysValue_1 : decode cX6_saysValue 1 = .ok (.iload_n 1, 1) := by decide +kernel
theorem dX6_saysValue_2 : decode cX6_saysValue 2 = .ok (.iconst 0, 1) := by decide +kernel
theorem dX6_saysValue_3 : decode cX6_saysValue 3 = .ok (.invokevirtual 65, 3) := by decide +kernel
theorem dX6_saysValue_6 : decode cX6_saysValue 6 = .ok (.iconst 1, 1) := by decide +kernel
theorem dX6_saysValue_7 : decode cX6_saysValue 7 = .ok (.if_icmp .ne 12, 3) := by decide +kernel
theorem dX6_saysValue_10 : decode cX6_saysValue 10 = .ok (.aload_n 0, 1) := by decide +kernel
theorem dX6_saysValue_11 : decode cX6_saysValue 11 = .ok (.iload_n 1, 1) := by decide +kernel
theorem dX6_saysValue_12 : decode cX6_saysValue 12 = .ok (.iconst 3, 1) := by decide +kernel
theorem dX6_saysValue_13 : decode cX6_saysValue 13 = .ok (.invokevirtual 65, 3) := by decide +kernel
theorem dX6_saysValue_16 : decode cX6_saysValue 16 = .ok (.goto 4, 3) := by decide +kernel
theorem dX6_saysValue_19 : decode cX6_saysValue 19 = .ok (.iconst 0, 1) := by decide +kernel
theorem dX6_saysValue_20 : decode cX6_saysValue 20 = .ok (.istore_n 2, 1) := by decide +kernel
theorem dX6_saysValue_21 : decode cX6_saysValue 21 = .ok (.iload_n 2, 1) := by decide +kernel
theorem dX6_saysValue_22 : decode cX6_saysValue 22 = .ok (.ifCond .le 15, 3) := by decide +kernel
theorem dX6_saysValue_25 : decode cX6_saysValue 25 = .ok (.aload_n 0, 1) := by decide +kernel
theorem dX6_saysValue_26 : decode cX6_saysValue 26 = .ok (.bipush 39, 2) := by decide +kernel
theorem dX6_saysValue_28 : decode cX6_saysValue 28 = .ok (.invokevirtual 176, 3) := by decide +kernel
theorem dX6_saysValue_31 : decode cX6_saysValue 31 = .ok (.iinc 2 (-1), 3) := by decide +kernel
theorem dX6_saysValue_34 : decode cX6_saysValue 34 = .ok (.goto (-13), 3) := by decide +kernel
theorem dX6_saysValue_37 : decode cX6_saysValue 37 = .ok (.aload_n 0, 1) := by decide +kernel
theorem dX6_saysValue_38 : decode cX6_saysValue 38 = .ok (.iload_n 1, 1) := by decide +kernel
theorem dX6_saysValue_39 : decode cX6_saysValue 39 = .ok (.iconst 0, 1) := by decide +kernel
theorem dX6_saysValue_40 : decode cX6_saysValue 40 = .ok (.invokevirtual 65, 3) := by decide +kernel
theorem dX6_saysValue_43 : decode cX6_saysValue 43 = .ok (.iconst 2, 1) := by decide +kernel
theorem dX6_saysValue_44 : decode cX6_saysValue 44 = .ok (.if_icmp .ne 19, 3) := by decide +kernel
theorem dX6_saysValue_47 : decode cX6_saysValue 47 = .ok (.aload_n 0, 1) := by decide +kernel
theorem dX6_saysValue_48 : decode cX6_saysValue 48 = .ok (.bipush 126, 2) := by decide +kernel
theorem dX6_saysValue_50 : decode cX6_saysValue 50 = .ok (.invokevirtual 176, 3) := by decide +kernel
theorem dX6_saysValue_53 : decode cX6_saysValue 53 = .ok (.aload_n 0, 1) := by decide +kernel
theorem dX6_saysValue_54 : decode cX6_saysValue 54 = .ok (.aload_n 0, 1) := by decide +kernel
theorem dX6_saysValue_55 : decode cX6_saysValue 55 = .ok (.iload_n 1, 1) := by decide +kernel
theorem dX6_saysValue_56 : decode cX6_saysValue 56 = .ok (.iconst 3, 1) := by decide +kernel
theorem dX6_saysValue_57 : decode cX6_saysValue 57 = .ok (.invokevirtual 65, 3) := by decide +kernel
theorem dX6_saysValue_60 : decode cX6_saysValue 60 = .ok (.invokevirtual 172, 3) := by decide +kernel
theorem dX6_saysValue_63 : decode cX6_saysValue 63 = .ok (.aload_n 0, 1) := by decide +kernel
theorem dX6_saysValue_64 : decode cX6_saysValue 64 = .ok (.iload_n 1, 1) := by decide +kernel
theorem dX6_saysValue_65 : decode cX6_saysValue 65 = .ok (.iconst 5, 1) := by decide +kernel
theorem dX6_saysValue_66 : decode cX6_saysValue 66 = .ok (.invokevirtual 65, 3) := by decide +kernel
theorem dX6_saysValue_69 : decode cX6_saysValue 69 = .ok (.ifCond .le 19, 3) := by decide +kernel
theorem dX6_saysValue_72 : decode cX6_saysValue 72 = .ok (.aload_n 0, 1) := by decide +kernel
theorem dX6_saysValue_73 : decode cX6_saysValue 73 = .ok (.bipush 35, 2) := by decide +kernel
theorem dX6_saysValue_75 : decode cX6_saysValue 75 = .ok (.invokevirtual 176, 3) := by decide +kernel
theorem dX6_saysValue_78 : decode cX6_saysValue 78 = .ok (.aload_n 0, 1) := by decide +kernel
theorem dX6_saysValue_79 : decode cX6_saysValue 79 = .ok (.aload_n 0, 1) := by decide +kernel
theorem dX6_saysValue_80 : decode cX6_saysValue 80 = .ok (.iload_n 1, 1) := by decide +kernel
theorem dX6_saysValue_81 : decode cX6_saysValue 81 = .ok (.iconst 5, 1) := by decide +kernel
theorem dX6_saysValue_82 : decode cX6_saysValue 82 = .ok (.invokevirtual 65, 3) := by decide +kernel
theorem dX6_saysValue_85 : decode cX6_saysValue 85 = .ok (.invokevirtual 172, 3) := by decide +kernel
theorem dX6_saysValue_88 : decode cX6_saysValue 88 = .ok (.return_, 1) := by decide +kernel
theorem dX6_line_0 : decode cX6_line 0 = .ok (.aload_n 0, 1) := by decide +kernel
theorem dX6_line_1 : decode cX6_line 1 = .ok (.aload_n 0, 1) := by decide +kernel
theorem dX6_line_2 : decode cX6_line 2 = .ok (.iload_n 1, 1) := by decide +kernel
theorem dX6_line_3 : decode cX6_line 3 = .ok (.invokevirtual 97, 3) := by decide +kernel
theorem dX6_line_6 : decode cX6_line 6 = .ok (.ifCond .eq 7, 3) := by decide +kernel
theorem dX6_line_9 : decode cX6_line 9 = .ok (.iconst 0, 1) := by decide +kernel
theorem dX6_line_10 : decode cX6_line 10 = .ok (.goto 4, 3) := by decide +kernel
theorem dX6_line_13 : decode cX6_line 13 = .ok (.iconst 1, 1) := by decide +kernel
theorem dX6_line_14 : decode cX6_line 14 = .ok (.putfield 39, 3) := by decide +kernel
theorem dX6_line_17 : decode cX6_line 17 = .ok (.aload_n 0, 1) := by decide +kernel
theorem dX6_line_18 : decode cX6_line 18 = .ok (.getfield 39, 3) := by decide +kernel
theorem dX6_line_21 : decode cX6_line 21 = .ok (.ifCond .le 5, 3) := by decide +kernel
theorem dX6_line_24 : decode cX6_line 24 = .ok (.iconst 0, 1) := by decide +kernel
theorem dX6_line_25 : decode cX6_line 25 = .ok (.ireturn, 1) := by decide +kernel
theorem dX6_line_26 : decode cX6_line 26 = .ok (.aload_n 0, 1) := by decide +kernel
theorem dX6_line_27 : decode cX6_line 27 = .ok (.iconst 0, 1) := by decide +kernel
theorem dX6_line_28 : decode cX6_line 28 = .ok (.putfield 169, 3) := by decide +kernel
theorem dX6_line_31 : decode cX6_line 31 = .ok (.aload_n 0, 1) := by decide +kernel
theorem dX6_line_32 : decode cX6_line 32 = .ok (.ldc 180, 2) := by decide +kernel
theorem dX6_line_34 : decode cX6_line 34 = .ok (.aload_n 0, 1) := by decide +kernel
theorem dX6_line_35 : decode cX6_line 35 = .ok (.iload_n 1, 1) := by decide +kernel
theorem dX6_line_36 : decode cX6_line 36 = .ok (.iconst 0, 1) := by decide +kernel
theorem dX6_line_37 : decode cX6_line 37 = .ok (.invokevirtual 65, 3) := by decide +kernel
theorem dX6_line_40 : decode cX6_line 40 = .ok (.iconst 1, 1) := by decide +kernel
theorem dX6_line_41 : decode cX6_line 41 = .ok (.isub, 1) := by decide +kernel
theorem dX6_line_42 : decode cX6_line 42 = .ok (.invokevirtual 182, 3) := by decide +kernel
theorem dX6_line_45 : decode cX6_line 45 = .ok (.invokevirtual 176, 3) := by decide +kernel
theorem dX6_line_48 : decode cX6_line 48 = .ok (.aload_n 0, 1) := by decide +kernel
theorem dX6_line_49 : decode cX6_line 49 = .ok (.aload_n 0, 1) := by decide +kernel
theorem dX6_line_50 : decode cX6_line 50 = .ok (.iload_n 1, 1) := by decide +kernel
theorem dX6_line_51 : decode cX6_line 51 = .ok (.iconst 1, 1) := by decide +kernel
theorem dX6_line_52 : decode cX6_line 52 = .ok (.invokevirtual 65, 3) := by decide +kernel
theorem dX6_line_55 : decode cX6_line 55 = .ok (.invokevirtual 172, 3) := by decide +kernel
theorem dX6_line_58 : decode cX6_line 58 = .ok (.aload_n 0, 1) := by decide +kernel
theorem dX6_line_59 : decode cX6_line 59 = .ok (.bipush 58, 2) := by decide +kernel
theorem dX6_line_61 : decode cX6_line 61 = .ok (.invokevirtual 176, 3) := by decide +kernel
theorem dX6_line_64 : decode cX6_line 64 = .ok (.aload_n 0, 1) := by decide +kernel
theorem dX6_line_65 : decode cX6_line 65 = .ok (.aload_n 0, 1) := by decide +kernel
theorem dX6_line_66 : decode cX6_line 66 = .ok (.iload_n 1, 1) := by decide +kernel
theorem dX6_line_67 : decode cX6_line 67 = .ok (.iconst 2, 1) := by decide +kernel
theorem dX6_line_68 : decode cX6_line 68 = .ok (.invokevirtual 65, 3) := by decide +kernel
theorem dX6_line_71 : decode cX6_line 71 = .ok (.invokevirtual 172, 3) := by decide +kernel
theorem dX6_line_74 : decode cX6_line 74 = .ok (.aload_n 0, 1) := by decide +kernel
theorem dX6_line_75 : decode cX6_line 75 = .ok (.iload_n 1, 1) := by decide +kernel
theorem dX6_line_76 : decode cX6_line 76 = .ok (.invokevirtual 188, 3) := by decide +kernel
theorem dX6_line_79 : decode cX6_line 79 = .ok (.aload_n 0, 1) := by decide +kernel
theorem dX6_line_80 : decode cX6_line 80 = .ok (.iload_n 1, 1) := by decide +kernel
theorem dX6_line_81 : decode cX6_line 81 = .ok (.iconst 4, 1) := by decide +kernel
theorem dX6_line_82 : decode cX6_line 82 = .ok (.invokevirtual 65, 3) := by decide +kernel
theorem dX6_line_85 : decode cX6_line 85 = .ok (.iconst 1, 1) := by decide +kernel
theorem dX6_line_86 : decode cX6_line 86 = .ok (.if_icmp .ne 9, 3) := by decide +kernel
theorem dX6_line_89 : decode cX6_line 89 = .ok (.aload_n 0, 1) := by decide +kernel
theorem dX6_line_90 : decode cX6_line 90 = .ok (.bipush 33, 2) := by decide +kernel
theorem dX6_line_92 : decode cX6_line 92 = .ok (.invokevirtual 176, 3) := by decide +kernel
theorem dX6_line_95 : decode cX6_line 95 = .ok (.aload_n 0, 1) := by decide +kernel
theorem dX6_line_96 : decode cX6_line 96 = .ok (.getfield 169, 3) := by decide +kernel
theorem dX6_line_99 : decode cX6_line 99 = .ok (.ireturn, 1) := by decide +kernel
theorem dX6_programmeLine_0 : decode cX6_programmeLine 0 = .ok (.aload_n 0, 1) := by decide +kernel
theorem dX6_programmeLine_1 : decode cX6_programmeLine 1 = .ok (.iconst 0, 1) := by decide +kernel
theorem dX6_programmeLine_2 : decode cX6_programmeLine 2 = .ok (.putfield 39, 3) := by decide +kernel
theorem dX6_programmeLine_5 : decode cX6_programmeLine 5 = .ok (.aload_n 0, 1) := by decide +kernel
theorem dX6_programmeLine_6 : decode cX6_programmeLine 6 = .ok (.iconst 0, 1) := by decide +kernel
theorem dX6_programmeLine_7 : decode cX6_programmeLine 7 = .ok (.putfield 169, 3) := by decide +kernel
theorem dX6_programmeLine_10 : decode cX6_programmeLine 10 = .ok (.iconst 0, 1) := by decide +kernel
theorem dX6_programmeLine_11 : decode cX6_programmeLine 11 = .ok (.istore_n 1, 1) := by decide +kernel
theorem dX6_programmeLine_12 : decode cX6_programmeLine 12 = .ok (.iload_n 1, 1) := by decide +kernel
theorem dX6_programmeLine_13 : decode cX6_programmeLine 13 = .ok (.aload_n 0, 1) := by decide +kernel
theorem dX6_programmeLine_14 : decode cX6_programmeLine 14 = .ok (.getfield 9, 3) := by decide +kernel
theorem dX6_programmeLine_17 : decode cX6_programmeLine 17 = .ok (.bipush 6, 2) := by decide +kernel
theorem dX6_programmeLine_19 : decode cX6_programmeLine 19 = .ok (.iaload, 1) := by decide +kernel
theorem dX6_programmeLine_20 : decode cX6_programmeLine 20 = .ok (.if_icmp .ge 22, 3) := by decide +kernel
theorem dX6_programmeLine_23 : decode cX6_programmeLine 23 = .ok (.aload_n 0, 1) := by decide +kernel
theorem dX6_programmeLine_24 : decode cX6_programmeLine 24 = .ok (.aload_n 0, 1) := by decide +kernel
theorem dX6_programmeLine_25 : decode cX6_programmeLine 25 = .ok (.getfield 9, 3) := by decide +kernel
theorem dX6_programmeLine_28 : decode cX6_programmeLine 28 = .ok (.bipush 7, 2) := by decide +kernel
theorem dX6_programmeLine_30 : decode cX6_programmeLine 30 = .ok (.iload_n 1, 1) := by decide +kernel
theorem dX6_programmeLine_31 : decode cX6_programmeLine 31 = .ok (.iadd, 1) := by decide +kernel
theorem dX6_programmeLine_32 : decode cX6_programmeLine 32 = .ok (.iaload, 1) := by decide +kernel
theorem dX6_programmeLine_33 : decode cX6_programmeLine 33 = .ok (.invokevirtual 172, 3) := by decide +kernel
theorem dX6_programmeLine_36 : decode cX6_programmeLine 36 = .ok (.iinc 1 1, 3) := by decide +kernel
theorem dX6_programmeLine_39 : decode cX6_programmeLine 39 = .ok (.goto (-27), 3) := by decide +kernel
theorem dX6_programmeLine_42 : decode cX6_programmeLine 42 = .ok (.aload_n 0, 1) := by decide +kernel
theorem dX6_programmeLine_43 : decode cX6_programmeLine 43 = .ok (.getfield 169, 3) := by decide +kernel
theorem dX6_programmeLine_46 : decode cX6_programmeLine 46 = .ok (.ireturn, 1) := by decide +kernel
theorem dX6_character_0 : decode cX6_character 0 = .ok (.aload_n 0, 1) := by decide +kernel
theorem dX6_character_1 : decode cX6_character 1 = .ok (.iload_n 1, 1) := by decide +kernel
theorem dX6_character_2 : decode cX6_character 2 = .ok (.iconst 0, 1) := by decide +kernel
theorem dX6_character_3 : decode cX6_character 3 = .ok (.aload_n 0, 1) := by decide +kernel
theorem dX6_character_4 : decode cX6_character 4 = .ok (.getfield 169, 3) := by decide +kernel
theorem dX6_character_7 : decode cX6_character 7 = .ok (.iconst 1, 1) := by decide +kernel
theorem dX6_character_8 : decode cX6_character 8 = .ok (.isub, 1) := by decide +kernel
theorem dX6_character_9 : decode cX6_character 9 = .ok (.invokestatic 61, 3) := by decide +kernel
theorem dX6_character_12 : decode cX6_character 12 = .ok (.ifCond .eq 7, 3) := by decide +kernel
theorem dX6_character_15 : decode cX6_character 15 = .ok (.iconst 0, 1) := by decide +kernel
theorem dX6_character_16 : decode cX6_character 16 = .ok (.goto 4, 3) := by decide +kernel
theorem dX6_character_19 : decode cX6_character 19 = .ok (.iconst 1, 1) := by decide +kernel
theorem dX6_character_20 : decode cX6_character 20 = .ok (.putfield 39, 3) := by decide +kernel
theorem dX6_character_23 : decode cX6_character 23 = .ok (.aload_n 0, 1) := by decide +kernel
theorem dX6_character_24 : decode cX6_character 24 = .ok (.getfield 39, 3) := by decide +kernel
theorem dX6_character_27 : decode cX6_character 27 = .ok (.ifCond .le 8, 3) := by decide +kernel
theorem dX6_character_30 : decode cX6_character 30 = .ok (.bipush 32, 2) := by decide +kernel
theorem dX6_character_32 : decode cX6_character 32 = .ok (.goto 9, 3) := by decide +kernel
theorem dX6_character_35 : decode cX6_character 35 = .ok (.aload_n 0, 1) := by decide +kernel
theorem dX6_character_36 : decode cX6_character 36 = .ok (.getfield 25, 3) := by decide +kernel
theorem dX6_character_39 : decode cX6_character 39 = .ok (.iload_n 1, 1) := by decide +kernel
theorem dX6_character_40 : decode cX6_character 40 = .ok (.caload, 1) := by decide +kernel
theorem dX6_character_41 : decode cX6_character 41 = .ok (.ireturn, 1) := by decide +kernel
theorem dX6_append_0 : decode cX6_append 0 = .ok (.aload_n 0, 1) := by decide +kernel
theorem dX6_append_1 : decode cX6_append 1 = .ok (.aload_n 0, 1) := by decide +kernel
theorem dX6_append_2 : decode cX6_append 2 = .ok (.getfield 191, 3) := by decide +kernel
theorem dX6_append_5 : decode cX6_append 5 = .ok (.bipush 60, 2) := by decide +kernel
theorem dX6_append_7 : decode cX6_append 7 = .ok (.if_icmp .ne 7, 3) := by decide +kernel
theorem dX6_append_10 : decode cX6_append 10 = .ok (.iconst 1, 1) := by decide +kernel
theorem dX6_append_11 : decode cX6_append 11 = .ok (.goto 4, 3) := by decide +kernel
theorem dX6_append_14 : decode cX6_append 14 = .ok (.iconst 0, 1) := by decide +kernel
theorem dX6_append_15 : decode cX6_append 15 = .ok (.putfield 39, 3) := by decide +kernel
theorem dX6_append_18 : decode cX6_append 18 = .ok (.aload_n 0, 1) := by decide +kernel
theorem dX6_append_19 : decode cX6_append 19 = .ok (.getfield 39, 3) := by decide +kernel
theorem dX6_append_22 : decode cX6_append 22 = .ok (.ifCond .le 5, 3) := by decide +kernel
theorem dX6_append_25 : decode cX6_append 25 = .ok (.iconst 0, 1) := by decide +kernel
theorem dX6_append_26 : decode cX6_append 26 = .ok (.ireturn, 1) := by decide +kernel
theorem dX6_append_27 : decode cX6_append 27 = .ok (.aload_n 0, 1) := by decide +kernel
theorem dX6_append_28 : decode cX6_append 28 = .ok (.getfield 29, 3) := by decide +kernel
theorem dX6_append_31 : decode cX6_append 31 = .ok (.aload_n 0, 1) := by decide +kernel
theorem dX6_append_32 : decode cX6_append 32 = .ok (.getfield 191, 3) := by decide +kernel
theorem dX6_append_35 : decode cX6_append 35 = .ok (.iload_n 1, 1) := by decide +kernel
theorem dX6_append_36 : decode cX6_append 36 = .ok (.castore, 1) := by decide +kernel
theorem dX6_append_37 : decode cX6_append 37 = .ok (.aload_n 0, 1) := by decide +kernel
theorem dX6_append_38 : decode cX6_append 38 = .ok (.dup, 1) := by decide +kernel
theorem dX6_append_39 : decode cX6_append 39 = .ok (.getfield 191, 3) := by decide +kernel
theorem dX6_append_42 : decode cX6_append 42 = .ok (.iconst 1, 1) := by decide +kernel
theorem dX6_append_43 : decode cX6_append 43 = .ok (.iadd, 1) := by decide +kernel
theorem dX6_append_44 : decode cX6_append 44 = .ok (.putfield 191, 3) := by decide +kernel
theorem dX6_append_47 : decode cX6_append 47 = .ok (.aload_n 0, 1) := by decide +kernel
theorem dX6_append_48 : decode cX6_append 48 = .ok (.getfield 191, 3) := by decide +kernel
theorem dX6_append_51 : decode cX6_append 51 = .ok (.ireturn, 1) := by decide +kernel
theorem dX6_isHere_0 : decode cX6_isHere 0 = .ok (.aload_n 0, 1) := by decide +kernel
theorem dX6_isHere_1 : decode cX6_isHere 1 = .ok (.getfield 194, 3) := by decide +kernel
theorem dX6_isHere_4 : decode cX6_isHere 4 = .ok (.ifCond .ne 35, 3) := by decide +kernel
theorem dX6_isHere_7 : decode cX6_isHere 7 = .ok (.aload_n 0, 1) := by decide +kernel
theorem dX6_isHere_8 : decode cX6_isHere 8 = .ok (.getfield 197, 3) := by decide +kernel
theorem dX6_isHere_11 : decode cX6_isHere 11 = .ok (.aload_n 0, 1) := by decide +kernel
theorem dX6_isHere_12 : decode cX6_isHere 12 = .ok (.getfield 191, 3) := by decide +kernel
theorem dX6_isHere_15 : decode cX6_isHere 15 = .ok (.if_icmp .ge 24, 3) := by decide +kernel
theorem dX6_isHere_18 : decode cX6_isHere 18 = .ok (.aload_n 0, 1) := by decide +kernel
theorem dX6_isHere_19 : decode cX6_isHere 19 = .ok (.getfield 29, 3) := by decide +kernel
theorem dX6_isHere_22 : decode cX6_isHere 22 = .ok (.aload_n 0, 1) := by decide +kernel
theorem dX6_isHere_23 : decode cX6_isHere 23 = .ok (.getfield 197, 3) := by decide +kernel
theorem dX6_isHere_26 : decode cX6_isHere 26 = .ok (.caload, 1) := by decide +kernel
theorem dX6_isHere_27 : decode cX6_isHere 27 = .ok (.iload_n 1, 1) := by decide +kernel
theorem dX6_isHere_28 : decode cX6_isHere 28 = .ok (.iload_n 2, 1) := by decide +kernel
theorem dX6_isHere_29 : decode cX6_isHere 29 = .ok (.invokestatic 61, 3) := by decide +kernel
theorem dX6_isHere_32 : decode cX6_isHere 32 = .ok (.ifCond .eq 7, 3) := by decide +kernel
theorem dX6_isHere_35 : decode cX6_isHere 35 = .ok (.iconst 1, 1) := by decide +kernel
theorem dX6_isHere_36 : decode cX6_isHere 36 = .ok (.goto 4, 3) := by decide +kernel
theorem dX6_isHere_39 : decode cX6_isHere 39 = .ok (.iconst 0, 1) := by decide +kernel
theorem dX6_isHere_40 : decode cX6_isHere 40 = .ok (.ireturn, 1) := by decide +kernel
theorem dX6_sign_0 : decode cX6_sign 0 = .ok (.aload_n 0, 1) := by decide +kernel
theorem dX6_sign_1 : decode cX6_sign 1 = .ok (.aload_n 0, 1) := by decide +kernel
theorem dX6_sign_2 : decode cX6_sign 2 = .ok (.getfield 194, 3) := by decide +kernel
theorem dX6_sign_5 : decode cX6_sign 5 = .ok (.ifCond .ne 12, 3) := by decide +kernel
theorem dX6_sign_8 : decode cX6_sign 8 = .ok (.aload_n 0, 1) := by decide +kernel
theorem dX6_sign_9 : decode cX6_sign 9 = .ok (.iload_n 1, 1) := by decide +kernel
theorem dX6_sign_10 : decode cX6_sign 10 = .ok (.iload_n 2, 1) := by decide +kernel
theorem dX6_sign_11 : decode cX6_sign 11 = .ok (.invokevirtual 200, 3) := by decide +kernel
theorem dX6_sign_14 : decode cX6_sign 14 = .ok (.ifCond .ne 7, 3) := by decide +kernel
theorem dX6_sign_17 : decode cX6_sign 17 = .ok (.iconst 1, 1) := by decide +kernel
theorem dX6_sign_18 : decode cX6_sign 18 = .ok (.goto 4, 3) := by decide +kernel
theorem dX6_sign_21 : decode cX6_sign 21 = .ok (.iconst 0, 1) := by decide +kernel
theorem dX6_sign_22 : decode cX6_sign 22 = .ok (.putfield 194, 3) := by decide +kernel
theorem dX6_sign_25 : decode cX6_sign 25 = .ok (.aload_n 0, 1) := by decide +kernel
theorem dX6_sign_26 : decode cX6_sign 26 = .ok (.getfield 194, 3) := by decide +kernel
theorem dX6_sign_29 : decode cX6_sign 29 = .ok (.ifCond .eq 5, 3) := by decide +kernel
theorem dX6_sign_32 : decode cX6_sign 32 = .ok (.iconst 0, 1) := by decide +kernel
theorem dX6_sign_33 : decode cX6_sign 33 = .ok (.ireturn, 1) := by decide +kernel
theorem dX6_sign_34 : decode cX6_sign 34 = .ok (.aload_n 0, 1) := by decide +kernel
theorem dX6_sign_35 : decode cX6_sign 35 = .ok (.dup, 1) := by decide +kernel
theorem dX6_sign_36 : decode cX6_sign 36 = .ok (.getfield 197, 3) := by decide +kernel
theorem dX6_sign_39 : decode cX6_sign 39 = .ok (.iconst 1, 1) := by decide +kernel
theorem dX6_sign_40 : decode cX6_sign 40 = .ok (.iadd, 1) := by decide +kernel
theorem dX6_sign_41 : decode cX6_sign 41 = .ok (.putfield 197, 3) := by decide +kernel
theorem dX6_sign_44 : decode cX6_sign 44 = .ok (.aload_n 0, 1) := by decide +kernel
theorem dX6_sign_45 : decode cX6_sign 45 = .ok (.getfield 29, 3) := by decide +kernel
theorem dX6_sign_48 : decode cX6_sign 48 = .ok (.aload_n 0, 1) := by decide +kernel
theorem dX6_sign_49 : decode cX6_sign 49 = .ok (.getfield 197, 3) := by decide +kernel
theorem dX6_sign_52 : decode cX6_sign 52 = .ok (.iconst 1, 1) := by decide +kernel
theorem dX6_sign_53 : decode cX6_sign 53 = .ok (.isub, 1) := by decide +kernel
theorem dX6_sign_54 : decode cX6_sign 54 = .ok (.caload, 1) := by decide +kernel
theorem dX6_sign_55 : decode cX6_sign 55 = .ok (.iload_n 1, 1) := by decide +kernel
theorem dX6_sign_56 : decode cX6_sign 56 = .ok (.isub, 1) := by decide +kernel
theorem dX6_sign_57 : decode cX6_sign 57 = .ok (.ireturn, 1) := by decide +kernel
theorem dX6_skip_0 : decode cX6_skip 0 = .ok (.iconst 0, 1) := by decide +kernel
theorem dX6_skip_1 : decode cX6_skip 1 = .ok (.istore_n 2, 1) := by decide +kernel
theorem dX6_skip_2 : decode cX6_skip 2 = .ok (.iload_n 2, 1) := by decide +kernel
theorem dX6_skip_3 : decode cX6_skip 3 = .ok (.aload_n 1, 1) := by decide +kernel
theorem dX6_skip_4 : decode cX6_skip 4 = .ok (.invokevirtual 204, 3) := by decide +kernel
theorem dX6_skip_7 : decode cX6_skip 7 = .ok (.if_icmp .ge 31, 3) := by decide +kernel
theorem dX6_skip_10 : decode cX6_skip 10 = .ok (.aload_n 0, 1) := by decide +kernel
theorem dX6_skip_11 : decode cX6_skip 11 = .ok (.getfield 194, 3) := by decide +kernel
theorem dX6_skip_14 : decode cX6_skip 14 = .ok (.ifCond .ne 24, 3) := by decide +kernel
theorem dX6_skip_17 : decode cX6_skip 17 = .ok (.aload_n 0, 1) := by decide +kernel
theorem dX6_skip_18 : decode cX6_skip 18 = .ok (.aload_n 1, 1) := by decide +kernel
theorem dX6_skip_19 : decode cX6_skip 19 = .ok (.iload_n 2, 1) := by decide +kernel
theorem dX6_skip_20 : decode cX6_skip 20 = .ok (.invokevirtual 182, 3) := by decide +kernel
theorem dX6_skip_23 : decode cX6_skip 23 = .ok (.aload_n 1, 1) := by decide +kernel
theorem dX6_skip_24 : decode cX6_skip 24 = .ok (.iload_n 2, 1) := by decide +kernel
theorem dX6_skip_25 : decode cX6_skip 25 = .ok (.invokevirtual 182, 3) := by decide +kernel
theorem dX6_skip_28 : decode cX6_skip 28 = .ok (.invokevirtual 206, 3) := by decide +kernel
theorem dX6_skip_31 : decode cX6_skip 31 = .ok (.istore_n 3, 1) := by decide +kernel
theorem dX6_skip_32 : decode cX6_skip 32 = .ok (.iinc 2 1, 3) := by decide +kernel
theorem dX6_skip_35 : decode cX6_skip 35 = .ok (.goto (-33), 3) := by decide +kernel
theorem dX6_skip_38 : decode cX6_skip 38 = .ok (.return_, 1) := by decide +kernel
theorem dX6_common_0 : decode cX6_common 0 = .ok (.iconst 0, 1) := by decide +kernel
theorem dX6_common_1 : decode cX6_common 1 = .ok (.istore_n 2, 1) := by decide +kernel
theorem dX6_common_2 : decode cX6_common 2 = .ok (.iload_n 2, 1) := by decide +kernel
theorem dX6_common_3 : decode cX6_common 3 = .ok (.aload_n 1, 1) := by decide +kernel
theorem dX6_common_4 : decode cX6_common 4 = .ok (.invokevirtual 204, 3) := by decide +kernel
theorem dX6_common_7 : decode cX6_common 7 = .ok (.if_icmp .ge 41, 3) := by decide +kernel
theorem dX6_common_10 : decode cX6_common 10 = .ok (.aload_n 0, 1) := by decide +kernel
theorem dX6_common_11 : decode cX6_common 11 = .ok (.getfield 197, 3) := by decide +kernel
theorem dX6_common_14 : decode cX6_common 14 = .ok (.iload_n 2, 1) := by decide +kernel
theorem dX6_common_15 : decode cX6_common 15 = .ok (.iadd, 1) := by decide +kernel
theorem dX6_common_16 : decode cX6_common 16 = .ok (.aload_n 0, 1) := by decide +kernel
theorem dX6_common_17 : decode cX6_common 17 = .ok (.getfield 191, 3) := by decide +kernel
theorem dX6_common_20 : decode cX6_common 20 = .ok (.if_icmp .ge 28, 3) := by decide +kernel
theorem dX6_common_23 : decode cX6_common 23 = .ok (.aload_n 0, 1) := by decide +kernel
theorem dX6_common_24 : decode cX6_common 24 = .ok (.getfield 29, 3) := by decide +kernel
theorem dX6_common_27 : decode cX6_common 27 = .ok (.aload_n 0, 1) := by decide +kernel
theorem dX6_common_28 : decode cX6_common 28 = .ok (.getfield 197, 3) := by decide +kernel
theorem dX6_common_31 : decode cX6_common 31 = .ok (.iload_n 2, 1) := by decide +kernel
theorem dX6_common_32 : decode cX6_common 32 = .ok (.iadd, 1) := by decide +kernel
theorem dX6_common_33 : decode cX6_common 33 = .ok (.caload, 1) := by decide +kernel
theorem dX6_common_34 : decode cX6_common 34 = .ok (.aload_n 1, 1) := by decide +kernel
theorem dX6_common_35 : decode cX6_common 35 = .ok (.iload_n 2, 1) := by decide +kernel
theorem dX6_common_36 : decode cX6_common 36 = .ok (.invokevirtual 182, 3) := by decide +kernel
theorem dX6_common_39 : decode cX6_common 39 = .ok (.if_icmp .ne 9, 3) := by decide +kernel
theorem dX6_common_42 : decode cX6_common 42 = .ok (.iinc 2 1, 3) := by decide +kernel
theorem dX6_common_45 : decode cX6_common 45 = .ok (.goto (-43), 3) := by decide +kernel
theorem dX6_common_48 : decode cX6_common 48 = .ok (.iload_n 2, 1) := by decide +kernel
theorem dX6_common_49 : decode cX6_common 49 = .ok (.ireturn, 1) := by decide +kernel
theorem dX6_word_0 : decode cX6_word 0 = .ok (.iconst 0, 1) := by decide +kernel
theorem dX6_word_1 : decode cX6_word 1 = .ok (.istore_n 1, 1) := by decide +kernel
theorem dX6_word_2 : decode cX6_word 2 = .ok (.iconst 0, 1) := by decide +kernel
theorem dX6_word_3 : decode cX6_word 3 = .ok (.istore_n 2, 1) := by decide +kernel
theorem dX6_word_4 : decode cX6_word 4 = .ok (.ldc 210, 2) := by decide +kernel
theorem dX6_word_6 : decode cX6_word 6 = .ok (.astore_n 3, 1) := by decide +kernel
theorem dX6_word_7 : decode cX6_word 7 = .ok (.iconst 0, 1) := by decide +kernel
theorem dX6_word_8 : decode cX6_word 8 = .ok (.istore 4, 2) := by decide +kernel
theorem dX6_word_10 : decode cX6_word 10 = .ok (.iload_n 2, 1) := by decide +kernel
theorem dX6_word_11 : decode cX6_word 11 = .ok (.ldc 212, 2) := by decide +kernel
theorem dX6_word_13 : decode cX6_word 13 = .ok (.invokevirtual 204, 3) := by decide +kernel
theorem dX6_word_16 : decode cX6_word 16 = .ok (.if_icmp .ge 59, 3) := by decide +kernel
theorem dX6_word_19 : decode cX6_word 19 = .ok (.ldc 212, 2) := by decide +kernel
theorem dX6_word_21 : decode cX6_word 21 = .ok (.bipush 32, 2) := by decide +kernel
theorem dX6_word_23 : decode cX6_word 23 = .ok (.iload_n 2, 1) := by decide +kernel
theorem dX6_word_24 : decode cX6_word 24 = .ok (.invokevirtual 214, 3) := by decide +kernel
theorem dX6_word_27 : decode cX6_word 27 = .ok (.istore 5, 2) := by decide +kernel
theorem dX6_word_29 : decode cX6_word 29 = .ok (.ldc 212, 2) := by decide +kernel
theorem dX6_word_31 : decode cX6_word 31 = .ok (.iload_n 2, 1) := by decide +kernel
theorem dX6_word_32 : decode cX6_word 32 = .ok (.iload 5, 2) := by decide +kernel
theorem dX6_word_34 : decode cX6_word 34 = .ok (.invokevirtual 217, 3) := by decide +kernel
theorem dX6_word_37 : decode cX6_word 37 = .ok (.astore 6, 2) := by decide +kernel
theorem dX6_word_39 : decode cX6_word 39 = .ok (.iload 4, 2) := by decide +kernel
theorem dX6_word_41 : decode cX6_word 41 = .ok (.ifCond .eq 17, 3) := by decide +kernel
theorem dX6_word_44 : decode cX6_word 44 = .ok (.aload_n 0, 1) := by decide +kernel
theorem dX6_word_45 : decode cX6_word 45 = .ok (.aload 6, 2) := by decide +kernel
theorem dX6_word_47 : decode cX6_word 47 = .ok (.invokevirtual 221, 3) := by decide +kernel
theorem dX6_word_50 : decode cX6_word 50 = .ok (.aload_n 0, 1) := by decide +kernel
theorem dX6_word_51 : decode cX6_word 51 = .ok (.aload_n 3, 1) := by decide +kernel
theorem dX6_word_52 : decode cX6_word 52 = .ok (.invokevirtual 221, 3) := by decide +kernel
theorem dX6_word_55 : decode cX6_word 55 = .ok (.if_icmp .le 9, 3) := by decide +kernel
theorem dX6_word_58 : decode cX6_word 58 = .ok (.iload 4, 2) := by decide +kernel
theorem dX6_word_60 : decode cX6_word 60 = .ok (.istore_n 1, 1) := by decide +kernel
theorem dX6_word_61 : decode cX6_word 61 = .ok (.aload 6, 2) := by decide +kernel
theorem dX6_word_63 : decode cX6_word 63 = .ok (.astore_n 3, 1) := by decide +kernel
theorem dX6_word_64 : decode cX6_word 64 = .ok (.iload 5, 2) := by decide +kernel
theorem dX6_word_66 : decode cX6_word 66 = .ok (.iconst 1, 1) := by decide +kernel
theorem dX6_word_67 : decode cX6_word 67 = .ok (.iadd, 1) := by decide +kernel
theorem dX6_word_68 : decode cX6_word 68 = .ok (.istore_n 2, 1) := by decide +kernel
theorem dX6_word_69 : decode cX6_word 69 = .ok (.iinc 4 1, 3) := by decide +kernel
theorem dX6_word_72 : decode cX6_word 72 = .ok (.goto (-62), 3) := by decide +kernel
theorem dX6_word_75 : decode cX6_word 75 = .ok (.aload_n 0, 1) := by decide +kernel
theorem dX6_word_76 : decode cX6_word 76 = .ok (.aload_n 3, 1) := by decide +kernel
theorem dX6_word_77 : decode cX6_word 77 = .ok (.invokevirtual 225, 3) := by decide +kernel
theorem dX6_word_80 : decode cX6_word 80 = .ok (.iload_n 1, 1) := by decide +kernel
theorem dX6_word_81 : decode cX6_word 81 = .ok (.ireturn, 1) := by decide +kernel
theorem dX6_digit_0 : decode cX6_digit 0 = .ok (.aload_n 0, 1) := by decide +kernel
theorem dX6_digit_1 : decode cX6_digit 1 = .ok (.bipush 48, 2) := by decide +kernel
theorem dX6_digit_3 : decode cX6_digit 3 = .ok (.bipush 57, 2) := by decide +kernel
theorem dX6_digit_5 : decode cX6_digit 5 = .ok (.invokevirtual 206, 3) := by decide +kernel
theorem dX6_digit_8 : decode cX6_digit 8 = .ok (.ireturn, 1) := by decide +kernel
theorem dX6_number_0 : decode cX6_number 0 = .ok (.aload_n 0, 1) := by decide +kernel
theorem dX6_number_1 : decode cX6_number 1 = .ok (.invokevirtual 229, 3) := by decide +kernel
theorem dX6_number_4 : decode cX6_number 4 = .ok (.istore_n 1, 1) := by decide +kernel
theorem dX6_number_5 : decode cX6_number 5 = .ok (.aload_n 0, 1) := by decide +kernel
theorem dX6_number_6 : decode cX6_number 6 = .ok (.bipush 48, 2) := by decide +kernel
theorem dX6_number_8 : decode cX6_number 8 = .ok (.bipush 57, 2) := by decide +kernel
theorem dX6_number_10 : decode cX6_number 10 = .ok (.invokevirtual 200, 3) := by decide +kernel
theorem dX6_number_13 : decode cX6_number 13 = .ok (.ifCond .eq 15, 3) := by decide +kernel
theorem dX6_number_16 : decode cX6_number 16 = .ok (.bipush 10, 2) := by decide +kernel
theorem dX6_number_18 : decode cX6_number 18 = .ok (.iload_n 1, 1) := by decide +kernel
theorem dX6_number_19 : decode cX6_number 19 = .ok (.imul, 1) := by decide +kernel
theorem dX6_number_20 : decode cX6_number 20 = .ok (.aload_n 0, 1) := by decide +kernel
theorem dX6_number_21 : decode cX6_number 21 = .ok (.invokevirtual 229, 3) := by decide +kernel
theorem dX6_number_24 : decode cX6_number 24 = .ok (.iadd, 1) := by decide +kernel
theorem dX6_number_25 : decode cX6_number 25 = .ok (.goto 4, 3) := by decide +kernel
theorem dX6_number_28 : decode cX6_number 28 = .ok (.iload_n 1, 1) := by decide +kernel
theorem dX6_number_29 : decode cX6_number 29 = .ok (.ireturn, 1) := by decide +kernel
theorem dX6_readOrder_0 : decode cX6_readOrder 0 = .ok (.aload_n 0, 1) := by decide +kernel
theorem dX6_readOrder_1 : decode cX6_readOrder 1 = .ok (.getfield 194, 3) := by decide +kernel
theorem dX6_readOrder_4 : decode cX6_readOrder 4 = .ok (.ifCond .eq 4, 3) := by decide +kernel
theorem dX6_readOrder_7 : decode cX6_readOrder 7 = .ok (.return_, 1) := by decide +kernel
theorem dX6_readOrder_8 : decode cX6_readOrder 8 = .ok (.iconst 3, 1) := by decide +kernel
theorem dX6_readOrder_9 : decode cX6_readOrder 9 = .ok (.aload_n 0, 1) := by decide +kernel
theorem dX6_readOrder_10 : decode cX6_readOrder 10 = .ok (.getfield 232, 3) := by decide +kernel
theorem dX6_readOrder_13 : decode cX6_readOrder 13 = .ok (.imul, 1) := by decide +kernel
theorem dX6_readOrder_14 : decode cX6_readOrder 14 = .ok (.istore_n 1, 1) := by decide +kernel
theorem dX6_readOrder_15 : decode cX6_readOrder 15 = .ok (.aload_n 0, 1) := by decide +kernel
theorem dX6_readOrder_16 : decode cX6_readOrder 16 = .ok (.dup, 1) := by decide +kernel
theorem dX6_readOrder_17 : decode cX6_readOrder 17 = .ok (.getfield 232, 3) := by decide +kernel
theorem dX6_readOrder_20 : decode cX6_readOrder 20 = .ok (.iconst 1, 1) := by decide +kernel
theorem dX6_readOrder_21 : decode cX6_readOrder 21 = .ok (.iadd, 1) := by decide +kernel
theorem dX6_readOrder_22 : decode cX6_readOrder 22 = .ok (.putfield 232, 3) := by decide +kernel
theorem dX6_readOrder_25 : decode cX6_readOrder 25 = .ok (.aload_n 0, 1) := by decide +kernel
theorem dX6_readOrder_26 : decode cX6_readOrder 26 = .ok (.invokevirtual 235, 3) := by decide +kernel
theorem dX6_readOrder_29 : decode cX6_readOrder 29 = .ok (.istore_n 2, 1) := by decide +kernel
theorem dX6_readOrder_30 : decode cX6_readOrder 30 = .ok (.aload_n 0, 1) := by decide +kernel
theorem dX6_readOrder_31 : decode cX6_readOrder 31 = .ok (.getfield 36, 3) := by decide +kernel
theorem dX6_readOrder_34 : decode cX6_readOrder 34 = .ok (.iload_n 1, 1) := by decide +kernel
theorem dX6_readOrder_35 : decode cX6_readOrder 35 = .ok (.iload_n 2, 1) := by decide +kernel
theorem dX6_readOrder_36 : decode cX6_readOrder 36 = .ok (.iastore, 1) := by decide +kernel
theorem dX6_readOrder_37 : decode cX6_readOrder 37 = .ok (.iload_n 2, 1) := by decide +kernel
theorem dX6_readOrder_38 : decode cX6_readOrder 38 = .ok (.bipush 6, 2) := by decide +kernel
theorem dX6_readOrder_40 : decode cX6_readOrder 40 = .ok (.if_icmp .lt 9, 3) := by decide +kernel
theorem dX6_readOrder_43 : decode cX6_readOrder 43 = .ok (.iload_n 2, 1) := by decide +kernel
theorem dX6_readOrder_44 : decode cX6_readOrder 44 = .ok (.bipush 7, 2) := by decide +kernel
theorem dX6_readOrder_46 : decode cX6_readOrder 46 = .ok (.if_icmp .ne 38, 3) := by decide +kernel
theorem dX6_readOrder_49 : decode cX6_readOrder 49 = .ok (.aload_n 0, 1) := by decide +kernel
theorem dX6_readOrder_50 : decode cX6_readOrder 50 = .ok (.ldc 238, 2) := by decide +kernel
theorem dX6_readOrder_52 : decode cX6_readOrder 52 = .ok (.invokevirtual 225, 3) := by decide +kernel
theorem dX6_readOrder_55 : decode cX6_readOrder 55 = .ok (.aload_n 0, 1) := by decide +kernel
theorem dX6_readOrder_56 : decode cX6_readOrder 56 = .ok (.getfield 36, 3) := by decide +kernel
theorem dX6_readOrder_59 : decode cX6_readOrder 59 = .ok (.iload_n 1, 1) := by decide +kernel
theorem dX6_readOrder_60 : decode cX6_readOrder 60 = .ok (.iconst 1, 1) := by decide +kernel
theorem dX6_readOrder_61 : decode cX6_readOrder 61 = .ok (.iadd, 1) := by decide +kernel
theorem dX6_readOrder_62 : decode cX6_readOrder 62 = .ok (.iload_n 2, 1) := by decide +kernel
theorem dX6_readOrder_63 : decode cX6_readOrder 63 = .ok (.iconst 3, 1) := by decide +kernel
theorem dX6_readOrder_64 : decode cX6_readOrder 64 = .ok (.if_icmp .eq 8, 3) := by decide +kernel
theorem dX6_readOrder_67 : decode cX6_readOrder 67 = .ok (.iload_n 2, 1) := by decide +kernel
theorem dX6_readOrder_68 : decode cX6_readOrder 68 = .ok (.iconst 4, 1) := by decide +kernel
theorem dX6_readOrder_69 : decode cX6_readOrder 69 = .ok (.if_icmp .ne 10, 3) := by decide +kernel
theorem dX6_readOrder_72 : decode cX6_readOrder 72 = .ok (.aload_n 0, 1) := by decide +kernel
theorem dX6_readOrder_73 : decode cX6_readOrder 73 = .ok (.invokevirtual 240, 3) := by decide +kernel
theorem dX6_readOrder_76 : decode cX6_readOrder 76 = .ok (.goto 7, 3) := by decide +kernel
theorem dX6_readOrder_79 : decode cX6_readOrder 79 = .ok (.aload_n 0, 1) := by decide +kernel
theorem dX6_readOrder_80 : decode cX6_readOrder 80 = .ok (.invokevirtual 229, 3) := by decide +kernel
theorem dX6_readOrder_83 : decode cX6_readOrder 83 = .ok (.iastore, 1) := by decide +kernel
theorem dX6_readOrder_84 : decode cX6_readOrder 84 = .ok (.iload_n 2, 1) := by decide +kernel
theorem dX6_readOrder_85 : decode cX6_readOrder 85 = .ok (.iconst 3, 1) := by decide +kernel
theorem dX6_readOrder_86 : decode cX6_readOrder 86 = .ok (.if_icmp .lt 8, 3) := by decide +kernel
theorem dX6_readOrder_89 : decode cX6_readOrder 89 = .ok (.iload_n 2, 1) := by decide +kernel
theorem dX6_readOrder_90 : decode cX6_readOrder 90 = .ok (.iconst 4, 1) := by decide +kernel
theorem dX6_readOrder_91 : decode cX6_readOrder 91 = .ok (.if_icmp .ne 21, 3) := by decide +kernel
theorem dX6_readOrder_94 : decode cX6_readOrder 94 = .ok (.aload_n 0, 1) := by decide +kernel
theorem dX6_readOrder_95 : decode cX6_readOrder 95 = .ok (.ldc 238, 2) := by decide +kernel
theorem dX6_readOrder_97 : decode cX6_readOrder 97 = .ok (.invokevirtual 225, 3) := by decide +kernel
theorem dX6_readOrder_100 : decode cX6_readOrder 100 = .ok (.aload_n 0, 1) := by decide +kernel
theorem dX6_readOrder_101 : decode cX6_readOrder 101 = .ok (.getfield 36, 3) := by decide +kernel
theorem dX6_readOrder_104 : decode cX6_readOrder 104 = .ok (.iload_n 1, 1) := by decide +kernel
theorem dX6_readOrder_105 : decode cX6_readOrder 105 = .ok (.iconst 2, 1) := by decide +kernel
theorem dX6_readOrder_106 : decode cX6_readOrder 106 = .ok (.iadd, 1) := by decide +kernel
theorem dX6_readOrder_107 : decode cX6_readOrder 107 = .ok (.aload_n 0, 1) := by decide +kernel
theorem dX6_readOrder_108 : decode cX6_readOrder 108 = .ok (.invokevirtual 229, 3) := by decide +kernel
theorem dX6_readOrder_111 : decode cX6_readOrder 111 = .ok (.iastore, 1) := by decide +kernel
theorem dX6_readOrder_112 : decode cX6_readOrder 112 = .ok (.return_, 1) := by decide +kernel
theorem dX6_does_0 : decode cX6_does 0 = .ok (.aload_n 0, 1) := by decide +kernel
theorem dX6_does_1 : decode cX6_does 1 = .ok (.getfield 36, 3) := by decide +kernel
theorem dX6_does_4 : decode cX6_does 4 = .ok (.iconst 3, 1) := by decide +kernel
theorem dX6_does_5 : decode cX6_does 5 = .ok (.iload_n 1, 1) := by decide +kernel
theorem dX6_does_6 : decode cX6_does 6 = .ok (.imul, 1) := by decide +kernel
theorem dX6_does_7 : decode cX6_does 7 = .ok (.iconst 1, 1) := by decide +kernel
theorem dX6_does_8 : decode cX6_does 8 = .ok (.iadd, 1) := by decide +kernel
theorem dX6_does_9 : decode cX6_does 9 = .ok (.iaload, 1) := by decide +kernel
theorem dX6_does_10 : decode cX6_does 10 = .ok (.istore_n 2, 1) := by decide +kernel
theorem dX6_does_11 : decode cX6_does 11 = .ok (.aload_n 0, 1) := by decide +kernel
theorem dX6_does_12 : decode cX6_does 12 = .ok (.getfield 36, 3) := by decide +kernel
theorem dX6_does_15 : decode cX6_does 15 = .ok (.iconst 3, 1) := by decide +kernel
theorem dX6_does_16 : decode cX6_does 16 = .ok (.iload_n 1, 1) := by decide +kernel
theorem dX6_does_17 : decode cX6_does 17 = .ok (.imul, 1) := by decide +kernel
theorem dX6_does_18 : decode cX6_does 18 = .ok (.iconst 2, 1) := by decide +kernel
theorem dX6_does_19 : decode cX6_does 19 = .ok (.iadd, 1) := by decide +kernel
theorem dX6_does_20 : decode cX6_does 20 = .ok (.iaload, 1) := by decide +kernel
theorem dX6_does_21 : decode cX6_does 21 = .ok (.istore_n 3, 1) := by decide +kernel
theorem dX6_does_22 : decode cX6_does 22 = .ok (.aload_n 0, 1) := by decide +kernel
theorem dX6_does_23 : decode cX6_does 23 = .ok (.getfield 36, 3) := by decide +kernel
theorem dX6_does_26 : decode cX6_does 26 = .ok (.iconst 3, 1) := by decide +kernel
theorem dX6_does_27 : decode cX6_does 27 = .ok (.iload_n 1, 1) := by decide +kernel
theorem dX6_does_28 : decode cX6_does 28 = .ok (.imul, 1) := by decide +kernel
theorem dX6_does_29 : decode cX6_does 29 = .ok (.iaload, 1) := by decide +kernel
theorem dX6_does_30 : decode cX6_does 30 = .ok (.tableswitch 116 3 9 #[42, 52, 63, 73, 88, 98, 107], 42) := by decide +kernel
theorem dX6_does_72 : decode cX6_does 72 = .ok (.aload_n 0, 1) := by decide +kernel
theorem dX6_does_73 : decode cX6_does 73 = .ok (.iload_n 2, 1) := by decide +kernel
theorem dX6_does_74 : decode cX6_does 74 = .ok (.invokevirtual 100, 3) := by decide +kernel
theorem dX6_does_77 : decode cX6_does 77 = .ok (.istore 4, 2) := by decide +kernel
theorem dX6_does_79 : decode cX6_does 79 = .ok (.goto 107, 3) := by decide +kernel
theorem dX6_does_82 : decode cX6_does 82 = .ok (.aload_n 0, 1) := by decide +kernel
theorem dX6_does_83 : decode cX6_does 83 = .ok (.iload_n 2, 1) := by decide +kernel
theorem dX6_does_84 : decode cX6_does 84 = .ok (.iload_n 3, 1) := by decide +kernel
theorem dX6_does_85 : decode cX6_does 85 = .ok (.invokevirtual 103, 3) := by decide +kernel
theorem dX6_does_88 : decode cX6_does 88 = .ok (.istore 4, 2) := by decide +kernel
theorem dX6_does_90 : decode cX6_does 90 = .ok (.goto 96, 3) := by decide +kernel
theorem dX6_does_93 : decode cX6_does 93 = .ok (.aload_n 0, 1) := by decide +kernel
theorem dX6_does_94 : decode cX6_does 94 = .ok (.iload_n 2, 1) := by decide +kernel
theorem dX6_does_95 : decode cX6_does 95 = .ok (.invokevirtual 109, 3) := by decide +kernel
theorem dX6_does_98 : decode cX6_does 98 = .ok (.istore 4, 2) := by decide +kernel
theorem dX6_does_100 : decode cX6_does 100 = .ok (.goto 86, 3) := by decide +kernel
theorem dX6_does_103 : decode cX6_does 103 = .ok (.aload_n 0, 1) := by decide +kernel
theorem dX6_does_104 : decode cX6_does 104 = .ok (.aload_n 0, 1) := by decide +kernel
theorem dX6_does_105 : decode cX6_does 105 = .ok (.getfield 9, 3) := by decide +kernel
theorem dX6_does_108 : decode cX6_does 108 = .ok (.iconst 1, 1) := by decide +kernel
theorem dX6_does_109 : decode cX6_does 109 = .ok (.iaload, 1) := by decide +kernel
theorem dX6_does_110 : decode cX6_does 110 = .ok (.invokevirtual 137, 3) := by decide +kernel
theorem dX6_does_113 : decode cX6_does 113 = .ok (.istore 4, 2) := by decide +kernel
theorem dX6_does_115 : decode cX6_does 115 = .ok (.goto 71, 3) := by decide +kernel
theorem dX6_does_118 : decode cX6_does 118 = .ok (.aload_n 0, 1) := by decide +kernel
theorem dX6_does_119 : decode cX6_does 119 = .ok (.iload_n 2, 1) := by decide +kernel
theorem dX6_does_120 : decode cX6_does 120 = .ok (.invokevirtual 140, 3) := by decide +kernel
theorem dX6_does_123 : decode cX6_does 123 = .ok (.istore 4, 2) := by decide +kernel
theorem dX6_does_125 : decode cX6_does 125 = .ok (.goto 61, 3) := by decide +kernel
theorem dX6_does_128 : decode cX6_does 128 = .ok (.aload_n 0, 1) := by decide +kernel
theorem dX6_does_129 : decode cX6_does 129 = .ok (.invokevirtual 146, 3) := by decide +kernel
theorem dX6_does_132 : decode cX6_does 132 = .ok (.istore 4, 2) := by decide +kernel
theorem dX6_does_134 : decode cX6_does 134 = .ok (.goto 52, 3) := by decide +kernel
theorem dX6_does_137 : decode cX6_does 137 = .ok (.aload_n 0, 1) := by decide +kernel
theorem dX6_does_138 : decode cX6_does 138 = .ok (.invokevirtual 150, 3) := by decide +kernel
theorem dX6_does_141 : decode cX6_does 141 = .ok (.istore 4, 2) := by decide +kernel
theorem dX6_does_143 : decode cX6_does 143 = .ok (.goto 43, 3) := by decide +kernel
theorem dX6_does_146 : decode cX6_does 146 = .ok (.aload_n 0, 1) := by decide +kernel
theorem dX6_does_147 : decode cX6_does 147 = .ok (.aload_n 0, 1) := by decide +kernel
theorem dX6_does_148 : decode cX6_does 148 = .ok (.getfield 36, 3) := by decide +kernel
theorem dX6_does_151 : decode cX6_does 151 = .ok (.iconst 3, 1) := by decide +kernel
theorem dX6_does_152 : decode cX6_does 152 = .ok (.iload_n 1, 1) := by decide +kernel
theorem dX6_does_153 : decode cX6_does 153 = .ok (.imul, 1) := by decide +kernel
theorem dX6_does_154 : decode cX6_does 154 = .ok (.iaload, 1) := by decide +kernel
theorem dX6_does_155 : decode cX6_does 155 = .ok (.ifCond .ne 7, 3) := by decide +kernel
theorem dX6_does_158 : decode cX6_does 158 = .ok (.iconst 1, 1) := by decide +kernel
theorem dX6_does_159 : decode cX6_does 159 = .ok (.goto 20, 3) := by decide +kernel
theorem dX6_does_162 : decode cX6_does 162 = .ok (.aload_n 0, 1) := by decide +kernel
theorem dX6_does_163 : decode cX6_does 163 = .ok (.getfield 36, 3) := by decide +kernel
theorem dX6_does_166 : decode cX6_does 166 = .ok (.iconst 3, 1) := by decide +kernel
theorem dX6_does_167 : decode cX6_does 167 = .ok (.iload_n 1, 1) := by decide +kernel
theorem dX6_does_168 : decode cX6_does 168 = .ok (.imul, 1) := by decide +kernel
theorem dX6_does_169 : decode cX6_does 169 = .ok (.iaload, 1) := by decide +kernel
theorem dX6_does_170 : decode cX6_does 170 = .ok (.iconst 1, 1) := by decide +kernel
theorem dX6_does_171 : decode cX6_does 171 = .ok (.if_icmp .ne 7, 3) := by decide +kernel
theorem dX6_does_174 : decode cX6_does 174 = .ok (.iconst 2, 1) := by decide +kernel
theorem dX6_does_175 : decode cX6_does 175 = .ok (.goto 4, 3) := by decide +kernel
theorem dX6_does_178 : decode cX6_does 178 = .ok (.iconst 3, 1) := by decide +kernel
theorem dX6_does_179 : decode cX6_does 179 = .ok (.iload_n 2, 1) := by decide +kernel
theorem dX6_does_180 : decode cX6_does 180 = .ok (.iload_n 3, 1) := by decide +kernel
theorem dX6_does_181 : decode cX6_does 181 = .ok (.invokevirtual 91, 3) := by decide +kernel
theorem dX6_does_184 : decode cX6_does 184 = .ok (.istore 4, 2) := by decide +kernel
theorem dX6_does_186 : decode cX6_does 186 = .ok (.return_, 1) := by decide +kernel
theorem dX6_run_0 : decode cX6_run 0 = .ok (.aload_n 0, 1) := by decide +kernel
theorem dX6_run_1 : decode cX6_run 1 = .ok (.iconst 0, 1) := by decide +kernel
theorem dX6_run_2 : decode cX6_run 2 = .ok (.putfield 197, 3) := by decide +kernel
theorem dX6_run_5 : decode cX6_run 5 = .ok (.aload_n 0, 1) := by decide +kernel
theorem dX6_run_6 : decode cX6_run 6 = .ok (.iconst 0, 1) := by decide +kernel
theorem dX6_run_7 : decode cX6_run 7 = .ok (.putfield 194, 3) := by decide +kernel
theorem dX6_run_10 : decode cX6_run 10 = .ok (.aload_n 0, 1) := by decide +kernel
theorem dX6_run_11 : decode cX6_run 11 = .ok (.iconst 0, 1) := by decide +kernel
theorem dX6_run_12 : decode cX6_run 12 = .ok (.putfield 232, 3) := by decide +kernel
theorem dX6_run_15 : decode cX6_run 15 = .ok (.aload_n 0, 1) := by decide +kernel
theorem dX6_run_16 : decode cX6_run 16 = .ok (.invokevirtual 243, 3) := by decide +kernel
theorem dX6_run_19 : decode cX6_run 19 = .ok (.aload_n 0, 1) := by decide +kernel
theorem dX6_run_20 : decode cX6_run 20 = .ok (.bipush 59, 2) := by decide +kernel
theorem dX6_run_22 : decode cX6_run 22 = .ok (.bipush 59, 2) := by decide +kernel
theorem dX6_run_24 : decode cX6_run 24 = .ok (.invokevirtual 200, 3) := by decide +kernel
theorem dX6_run_27 : decode cX6_run 27 = .ok (.ifCond .eq 20, 3) := by decide +kernel
theorem dX6_run_30 : decode cX6_run 30 = .ok (.aload_n 0, 1) := by decide +kernel
theorem dX6_run_31 : decode cX6_run 31 = .ok (.dup, 1) := by decide +kernel
theorem dX6_run_32 : decode cX6_run 32 = .ok (.getfield 197, 3) := by decide +kernel
theorem dX6_run_35 : decode cX6_run 35 = .ok (.iconst 1, 1) := by decide +kernel
theorem dX6_run_36 : decode cX6_run 36 = .ok (.iadd, 1) := by decide +kernel
theorem dX6_run_37 : decode cX6_run 37 = .ok (.putfield 197, 3) := by decide +kernel
theorem dX6_run_40 : decode cX6_run 40 = .ok (.aload_n 0, 1) := by decide +kernel
theorem dX6_run_41 : decode cX6_run 41 = .ok (.invokevirtual 243, 3) := by decide +kernel
theorem dX6_run_44 : decode cX6_run 44 = .ok (.goto (-25), 3) := by decide +kernel
theorem dX6_run_47 : decode cX6_run 47 = .ok (.aload_n 0, 1) := by decide +kernel
theorem dX6_run_48 : decode cX6_run 48 = .ok (.aload_n 0, 1) := by decide +kernel
theorem dX6_run_49 : decode cX6_run 49 = .ok (.getfield 194, 3) := by decide +kernel
theorem dX6_run_52 : decode cX6_run 52 = .ok (.ifCond .ne 14, 3) := by decide +kernel
theorem dX6_run_55 : decode cX6_run 55 = .ok (.aload_n 0, 1) := by decide +kernel
theorem dX6_run_56 : decode cX6_run 56 = .ok (.getfield 197, 3) := by decide +kernel
theorem dX6_run_59 : decode cX6_run 59 = .ok (.aload_n 0, 1) := by decide +kernel
theorem dX6_run_60 : decode cX6_run 60 = .ok (.getfield 191, 3) := by decide +kernel
theorem dX6_run_63 : decode cX6_run 63 = .ok (.if_icmp .ge 7, 3) := by decide +kernel
theorem dX6_run_66 : decode cX6_run 66 = .ok (.iconst 1, 1) := by decide +kernel
theorem dX6_run_67 : decode cX6_run 67 = .ok (.goto 4, 3) := by decide +kernel
theorem dX6_run_70 : decode cX6_run 70 = .ok (.iconst 0, 1) := by decide +kernel
theorem dX6_run_71 : decode cX6_run 71 = .ok (.putfield 194, 3) := by decide +kernel
theorem dX6_run_74 : decode cX6_run 74 = .ok (.aload_n 0, 1) := by decide +kernel
theorem dX6_run_75 : decode cX6_run 75 = .ok (.aload_n 0, 1) := by decide +kernel
theorem dX6_run_76 : decode cX6_run 76 = .ok (.getfield 194, 3) := by decide +kernel
theorem dX6_run_79 : decode cX6_run 79 = .ok (.ifCond .eq 10, 3) := by decide +kernel
theorem dX6_run_82 : decode cX6_run 82 = .ok (.aload_n 0, 1) := by decide +kernel
theorem dX6_run_83 : decode cX6_run 83 = .ok (.getfield 197, 3) := by decide +kernel
theorem dX6_run_86 : decode cX6_run 86 = .ok (.goto 4, 3) := by decide +kernel
theorem dX6_run_89 : decode cX6_run 89 = .ok (.iconst (-1), 1) := by decide +kernel
theorem dX6_run_90 : decode cX6_run 90 = .ok (.putfield 32, 3) := by decide +kernel
theorem dX6_run_93 : decode cX6_run 93 = .ok (.aload_n 0, 1) := by decide +kernel
theorem dX6_run_94 : decode cX6_run 94 = .ok (.iconst 0, 1) := by decide +kernel
theorem dX6_run_95 : decode cX6_run 95 = .ok (.putfield 191, 3) := by decide +kernel
theorem dX6_run_98 : decode cX6_run 98 = .ok (.aload_n 0, 1) := by decide +kernel
theorem dX6_run_99 : decode cX6_run 99 = .ok (.getfield 194, 3) := by decide +kernel
theorem dX6_run_102 : decode cX6_run 102 = .ok (.ifCond .eq 9, 3) := by decide +kernel
theorem dX6_run_105 : decode cX6_run 105 = .ok (.aload_n 0, 1) := by decide +kernel
theorem dX6_run_106 : decode cX6_run 106 = .ok (.iconst 1, 1) := by decide +kernel
theorem dX6_run_107 : decode cX6_run 107 = .ok (.invokevirtual 73, 3) := by decide +kernel
theorem dX6_run_110 : decode cX6_run 110 = .ok (.ireturn, 1) := by decide +kernel
theorem dX6_run_111 : decode cX6_run 111 = .ok (.aload_n 0, 1) := by decide +kernel
theorem dX6_run_112 : decode cX6_run 112 = .ok (.invokevirtual 88, 3) := by decide +kernel
theorem dX6_run_115 : decode cX6_run 115 = .ok (.iconst 0, 1) := by decide +kernel
theorem dX6_run_116 : decode cX6_run 116 = .ok (.istore_n 1, 1) := by decide +kernel
theorem dX6_run_117 : decode cX6_run 117 = .ok (.iload_n 1, 1) := by decide +kernel
theorem dX6_run_118 : decode cX6_run 118 = .ok (.aload_n 0, 1) := by decide +kernel
theorem dX6_run_119 : decode cX6_run 119 = .ok (.getfield 232, 3) := by decide +kernel
theorem dX6_run_122 : decode cX6_run 122 = .ok (.if_icmp .ge 48, 3) := by decide +kernel
theorem dX6_run_125 : decode cX6_run 125 = .ok (.aload_n 0, 1) := by decide +kernel
theorem dX6_run_126 : decode cX6_run 126 = .ok (.iconst 0, 1) := by decide +kernel
theorem dX6_run_127 : decode cX6_run 127 = .ok (.putfield 51, 3) := by decide +kernel
theorem dX6_run_130 : decode cX6_run 130 = .ok (.aload_n 0, 1) := by decide +kernel
theorem dX6_run_131 : decode cX6_run 131 = .ok (.iload_n 1, 1) := by decide +kernel
theorem dX6_run_132 : decode cX6_run 132 = .ok (.invokevirtual 246, 3) := by decide +kernel
theorem dX6_run_135 : decode cX6_run 135 = .ok (.aload_n 0, 1) := by decide +kernel
theorem dX6_run_136 : decode cX6_run 136 = .ok (.getfield 39, 3) := by decide +kernel
theorem dX6_run_139 : decode cX6_run 139 = .ok (.ifCond .le 25, 3) := by decide +kernel
theorem dX6_run_142 : decode cX6_run 142 = .ok (.aload_n 0, 1) := by decide +kernel
theorem dX6_run_143 : decode cX6_run 143 = .ok (.aload_n 0, 1) := by decide +kernel
theorem dX6_run_144 : decode cX6_run 144 = .ok (.getfield 51, 3) := by decide +kernel
theorem dX6_run_147 : decode cX6_run 147 = .ok (.ifCond .eq 7, 3) := by decide +kernel
theorem dX6_run_150 : decode cX6_run 150 = .ok (.iconst 2, 1) := by decide +kernel
theorem dX6_run_151 : decode cX6_run 151 = .ok (.goto 4, 3) := by decide +kernel
theorem dX6_run_154 : decode cX6_run 154 = .ok (.iconst 1, 1) := by decide +kernel
theorem dX6_run_155 : decode cX6_run 155 = .ok (.putfield 39, 3) := by decide +kernel
theorem dX6_run_158 : decode cX6_run 158 = .ok (.aload_n 0, 1) := by decide +kernel
theorem dX6_run_159 : decode cX6_run 159 = .ok (.iconst 0, 1) := by decide +kernel
theorem dX6_run_160 : decode cX6_run 160 = .ok (.invokevirtual 94, 3) := by decide +kernel
theorem dX6_run_163 : decode cX6_run 163 = .ok (.ireturn, 1) := by decide +kernel
theorem dX6_run_164 : decode cX6_run 164 = .ok (.iinc 1 1, 3) := by decide +kernel
theorem dX6_run_167 : decode cX6_run 167 = .ok (.goto (-50), 3) := by decide +kernel
theorem dX6_run_170 : decode cX6_run 170 = .ok (.aload_n 0, 1) := by decide +kernel
theorem dX6_run_171 : decode cX6_run 171 = .ok (.aload_n 0, 1) := by decide +kernel
theorem dX6_run_172 : decode cX6_run 172 = .ok (.getfield 232, 3) := by decide +kernel
theorem dX6_run_175 : decode cX6_run 175 = .ok (.invokevirtual 94, 3) := by decide +kernel
theorem dX6_run_178 : decode cX6_run 178 = .ok (.ireturn, 1) := by decide +kernel
theorem dX6_errorPosition_0 : decode cX6_errorPosition 0 = .ok (.aload_n 0, 1) := by decide +kernel
theorem dX6_errorPosition_1 : decode cX6_errorPosition 1 = .ok (.iconst 0, 1) := by decide +kernel
theorem dX6_errorPosition_2 : decode cX6_errorPosition 2 = .ok (.putfield 39, 3) := by decide +kernel
theorem dX6_errorPosition_5 : decode cX6_errorPosition 5 = .ok (.aload_n 0, 1) := by decide +kernel
theorem dX6_errorPosition_6 : decode cX6_errorPosition 6 = .ok (.getfield 32, 3) := by decide +kernel
theorem dX6_errorPosition_9 : decode cX6_errorPosition 9 = .ok (.ireturn, 1) := by decide +kernel
theorem dX6_brokenMany_0 : decode cX6_brokenMany 0 = .ok (.iconst 0, 1) := by decide +kernel
theorem dX6_brokenMany_1 : decode cX6_brokenMany 1 = .ok (.istore_n 1, 1) := by decide +kernel
theorem dX6_brokenMany_2 : decode cX6_brokenMany 2 = .ok (.iconst 0, 1) := by decide +kernel
theorem dX6_brokenMany_3 : decode cX6_brokenMany 3 = .ok (.istore_n 2, 1) := by decide +kernel
theorem dX6_brokenMany_4 : decode cX6_brokenMany 4 = .ok (.iload_n 2, 1) := by decide +kernel
theorem dX6_brokenMany_5 : decode cX6_brokenMany 5 = .ok (.aload_n 0, 1) := by decide +kernel
theorem dX6_brokenMany_6 : decode cX6_brokenMany 6 = .ok (.getfield 9, 3) := by decide +kernel
theorem dX6_brokenMany_9 : decode cX6_brokenMany 9 = .ok (.iconst 0, 1) := by decide +kernel
theorem dX6_brokenMany_10 : decode cX6_brokenMany 10 = .ok (.iaload, 1) := by decide +kernel
theorem dX6_brokenMany_11 : decode cX6_brokenMany 11 = .ok (.if_icmp .ge 18, 3) := by decide +kernel
theorem dX6_brokenMany_14 : decode cX6_brokenMany 14 = .ok (.iload_n 1, 1) := by decide +kernel
theorem dX6_brokenMany_15 : decode cX6_brokenMany 15 = .ok (.aload_n 0, 1) := by decide +kernel
theorem dX6_brokenMany_16 : decode cX6_brokenMany 16 = .ok (.iload_n 2, 1) := by decide +kernel
theorem dX6_brokenMany_17 : decode cX6_brokenMany 17 = .ok (.iconst 4, 1) := by decide +kernel
theorem dX6_brokenMany_18 : decode cX6_brokenMany 18 = .ok (.invokevirtual 65, 3) := by decide +kernel
theorem dX6_brokenMany_21 : decode cX6_brokenMany 21 = .ok (.iadd, 1) := by decide +kernel
theorem dX6_brokenMany_22 : decode cX6_brokenMany 22 = .ok (.istore_n 1, 1) := by decide +kernel
theorem dX6_brokenMany_23 : decode cX6_brokenMany 23 = .ok (.iinc 2 1, 3) := by decide +kernel
theorem dX6_brokenMany_26 : decode cX6_brokenMany 26 = .ok (.goto (-22), 3) := by decide +kernel
theorem dX6_brokenMany_29 : decode cX6_brokenMany 29 = .ok (.iload_n 1, 1) := by decide +kernel
theorem dX6_brokenMany_30 : decode cX6_brokenMany 30 = .ok (.ireturn, 1) := by decide +kernel
theorem dX6_account_0 : decode cX6_account 0 = .ok (.aload_n 0, 1) := by decide +kernel
theorem dX6_account_1 : decode cX6_account 1 = .ok (.iload_n 1, 1) := by decide +kernel
theorem dX6_account_2 : decode cX6_account 2 = .ok (.iconst 0, 1) := by decide +kernel
theorem dX6_account_3 : decode cX6_account 3 = .ok (.bipush 12, 2) := by decide +kernel
theorem dX6_account_5 : decode cX6_account 5 = .ok (.invokestatic 61, 3) := by decide +kernel
theorem dX6_account_8 : decode cX6_account 8 = .ok (.ifCond .eq 7, 3) := by decide +kernel
theorem dX6_account_11 : decode cX6_account 11 = .ok (.iconst 0, 1) := by decide +kernel
theorem dX6_account_12 : decode cX6_account 12 = .ok (.goto 4, 3) := by decide +kernel
theorem dX6_account_15 : decode cX6_account 15 = .ok (.iconst 1, 1) := by decide +kernel
theorem dX6_account_16 : decode cX6_account 16 = .ok (.putfield 39, 3) := by decide +kernel
theorem dX6_account_19 : decode cX6_account 19 = .ok (.aload_n 0, 1) := by decide +kernel
theorem dX6_account_20 : decode cX6_account 20 = .ok (.getfield 39, 3) := by decide +kernel
theorem dX6_account_23 : decode cX6_account 23 = .ok (.ifCond .le 5, 3) := by decide +kernel
theorem dX6_account_26 : decode cX6_account 26 = .ok (.iconst 0, 1) := by decide +kernel
theorem dX6_account_27 : decode cX6_account 27 = .ok (.ireturn, 1) := by decide +kernel
theorem dX6_account_28 : decode cX6_account 28 = .ok (.iload_n 1, 1) := by decide +kernel
theorem dX6_account_29 : decode cX6_account 29 = .ok (.tableswitch 96 0 12 #[67, 96, 96, 96, 74, 79, 96, 96, 96, 96, 96, 86, 91], 67) := by decide +kernel
theorem dX6_account_96 : decode cX6_account 96 = .ok (.aload_n 0, 1) := by decide +kernel
theorem dX6_account_97 : decode cX6_account 97 = .ok (.getfield 9, 3) := by decide +kernel
theorem dX6_account_100 : decode cX6_account 100 = .ok (.iconst 0, 1) := by decide +kernel
theorem dX6_account_101 : decode cX6_account 101 = .ok (.iaload, 1) := by decide +kernel
theorem dX6_account_102 : decode cX6_account 102 = .ok (.ireturn, 1) := by decide +kernel
theorem dX6_account_103 : decode cX6_account 103 = .ok (.aload_n 0, 1) := by decide +kernel
theorem dX6_account_104 : decode cX6_account 104 = .ok (.invokevirtual 249, 3) := by decide +kernel
theorem dX6_account_107 : decode cX6_account 107 = .ok (.ireturn, 1) := by decide +kernel
theorem dX6_account_108 : decode cX6_account 108 = .ok (.aload_n 0, 1) := by decide +kernel
theorem dX6_account_109 : decode cX6_account 109 = .ok (.getfield 9, 3) := by decide +kernel
theorem dX6_account_112 : decode cX6_account 112 = .ok (.iconst 1, 1) := by decide +kernel
theorem dX6_account_113 : decode cX6_account 113 = .ok (.iaload, 1) := by decide +kernel
theorem dX6_account_114 : decode cX6_account 114 = .ok (.ireturn, 1) := by decide +kernel
theorem dX6_account_115 : decode cX6_account 115 = .ok (.aload_n 0, 1) := by decide +kernel
theorem dX6_account_116 : decode cX6_account 116 = .ok (.getfield 191, 3) := by decide +kernel
theorem dX6_account_119 : decode cX6_account 119 = .ok (.ireturn, 1) := by decide +kernel
theorem dX6_account_120 : decode cX6_account 120 = .ok (.aload_n 0, 1) := by decide +kernel
theorem dX6_account_121 : decode cX6_account 121 = .ok (.getfield 48, 3) := by decide +kernel
theorem dX6_account_124 : decode cX6_account 124 = .ok (.ireturn, 1) := by decide +kernel
theorem dX6_account_125 : decode cX6_account 125 = .ok (.iload_n 1, 1) := by decide +kernel
theorem dX6_account_126 : decode cX6_account 126 = .ok (.iconst 4, 1) := by decide +kernel
theorem dX6_account_127 : decode cX6_account 127 = .ok (.if_icmp .ge 11, 3) := by decide +kernel
theorem dX6_account_130 : decode cX6_account 130 = .ok (.aload_n 0, 1) := by decide +kernel
theorem dX6_account_131 : decode cX6_account 131 = .ok (.iload_n 1, 1) := by decide +kernel
theorem dX6_account_132 : decode cX6_account 132 = .ok (.invokevirtual 143, 3) := by decide +kernel
theorem dX6_account_135 : decode cX6_account 135 = .ok (.goto 14, 3) := by decide +kernel
theorem dX6_account_138 : decode cX6_account 138 = .ok (.aload_n 0, 1) := by decide +kernel
theorem dX6_account_139 : decode cX6_account 139 = .ok (.getfield 9, 3) := by decide +kernel
theorem dX6_account_142 : decode cX6_account 142 = .ok (.iconst 2, 1) := by decide +kernel
theorem dX6_account_143 : decode cX6_account 143 = .ok (.iload_n 1, 1) := by decide +kernel
theorem dX6_account_144 : decode cX6_account 144 = .ok (.iadd, 1) := by decide +kernel
theorem dX6_account_145 : decode cX6_account 145 = .ok (.bipush 6, 2) := by decide +kernel
theorem dX6_account_147 : decode cX6_account 147 = .ok (.isub, 1) := by decide +kernel
theorem dX6_account_148 : decode cX6_account 148 = .ok (.iaload, 1) := by decide +kernel
theorem dX6_account_149 : decode cX6_account 149 = .ok (.ireturn, 1) := by decide +kernel
theorem dX6_isWell_0 : decode cX6_isWell 0 = .ok (.aload_n 0, 1) := by decide +kernel
theorem dX6_isWell_1 : decode cX6_isWell 1 = .ok (.iconst 0, 1) := by decide +kernel
theorem dX6_isWell_2 : decode cX6_isWell 2 = .ok (.putfield 39, 3) := by decide +kernel
theorem dX6_isWell_5 : decode cX6_isWell 5 = .ok (.iconst 1, 1) := by decide +kernel
theorem dX6_isWell_6 : decode cX6_isWell 6 = .ok (.ireturn, 1) := by decide +kernel
theorem dX6_meanGrade_0 : decode cX6_meanGrade 0 = .ok (.aload_n 0, 1) := by decide +kernel
theorem dX6_meanGrade_1 : decode cX6_meanGrade 1 = .ok (.iconst 1, 1) := by decide +kernel
theorem dX6_meanGrade_2 : decode cX6_meanGrade 2 = .ok (.invokevirtual 143, 3) := by decide +kernel
theorem dX6_meanGrade_5 : decode cX6_meanGrade 5 = .ok (.istore_n 1, 1) := by decide +kernel
theorem dX6_meanGrade_6 : decode cX6_meanGrade 6 = .ok (.aload_n 0, 1) := by decide +kernel
theorem dX6_meanGrade_7 : decode cX6_meanGrade 7 = .ok (.iload_n 1, 1) := by decide +kernel
theorem dX6_meanGrade_8 : decode cX6_meanGrade 8 = .ok (.ifCond .ne 7, 3) := by decide +kernel
theorem dX6_meanGrade_11 : decode cX6_meanGrade 11 = .ok (.iconst 1, 1) := by decide +kernel
theorem dX6_meanGrade_12 : decode cX6_meanGrade 12 = .ok (.goto 4, 3) := by decide +kernel
theorem dX6_meanGrade_15 : decode cX6_meanGrade 15 = .ok (.iconst 0, 1) := by decide +kernel
theorem dX6_meanGrade_16 : decode cX6_meanGrade 16 = .ok (.putfield 39, 3) := by decide +kernel
theorem dX6_meanGrade_19 : decode cX6_meanGrade 19 = .ok (.iconst 0, 1) := by decide +kernel
theorem dX6_meanGrade_20 : decode cX6_meanGrade 20 = .ok (.istore_n 2, 1) := by decide +kernel
theorem dX6_meanGrade_21 : decode cX6_meanGrade 21 = .ok (.iconst 0, 1) := by decide +kernel
theorem dX6_meanGrade_22 : decode cX6_meanGrade 22 = .ok (.istore_n 3, 1) := by decide +kernel
theorem dX6_meanGrade_23 : decode cX6_meanGrade 23 = .ok (.iload_n 3, 1) := by decide +kernel
theorem dX6_meanGrade_24 : decode cX6_meanGrade 24 = .ok (.aload_n 0, 1) := by decide +kernel
theorem dX6_meanGrade_25 : decode cX6_meanGrade 25 = .ok (.getfield 9, 3) := by decide +kernel
theorem dX6_meanGrade_28 : decode cX6_meanGrade 28 = .ok (.iconst 0, 1) := by decide +kernel
theorem dX6_meanGrade_29 : decode cX6_meanGrade 29 = .ok (.iaload, 1) := by decide +kernel
theorem dX6_meanGrade_30 : decode cX6_meanGrade 30 = .ok (.if_icmp .ge 32, 3) := by decide +kernel
theorem dX6_meanGrade_33 : decode cX6_meanGrade 33 = .ok (.iload_n 2, 1) := by decide +kernel
theorem dX6_meanGrade_34 : decode cX6_meanGrade 34 = .ok (.aload_n 0, 1) := by decide +kernel
theorem dX6_meanGrade_35 : decode cX6_meanGrade 35 = .ok (.iload_n 3, 1) := by decide +kernel
theorem dX6_meanGrade_36 : decode cX6_meanGrade 36 = .ok (.iconst 0, 1) := by decide +kernel
theorem dX6_meanGrade_37 : decode cX6_meanGrade 37 = .ok (.invokevirtual 65, 3) := by decide +kernel
theorem dX6_meanGrade_40 : decode cX6_meanGrade 40 = .ok (.iconst 1, 1) := by decide +kernel
theorem dX6_meanGrade_41 : decode cX6_meanGrade 41 = .ok (.if_icmp .ne 12, 3) := by decide +kernel
theorem dX6_meanGrade_44 : decode cX6_meanGrade 44 = .ok (.aload_n 0, 1) := by decide +kernel
theorem dX6_meanGrade_45 : decode cX6_meanGrade 45 = .ok (.iload_n 3, 1) := by decide +kernel
theorem dX6_meanGrade_46 : decode cX6_meanGrade 46 = .ok (.iconst 2, 1) := by decide +kernel
theorem dX6_meanGrade_47 : decode cX6_meanGrade 47 = .ok (.invokevirtual 65, 3) := by decide +kernel
theorem dX6_meanGrade_50 : decode cX6_meanGrade 50 = .ok (.goto 4, 3) := by decide +kernel
theorem dX6_meanGrade_53 : decode cX6_meanGrade 53 = .ok (.iconst 0, 1) := by decide +kernel
theorem dX6_meanGrade_54 : decode cX6_meanGrade 54 = .ok (.iadd, 1) := by decide +kernel
theorem dX6_meanGrade_55 : decode cX6_meanGrade 55 = .ok (.istore_n 2, 1) := by decide +kernel
theorem dX6_meanGrade_56 : decode cX6_meanGrade 56 = .ok (.iinc 3 1, 3) := by decide +kernel
theorem dX6_meanGrade_59 : decode cX6_meanGrade 59 = .ok (.goto (-36), 3) := by decide +kernel
theorem dX6_meanGrade_62 : decode cX6_meanGrade 62 = .ok (.aload_n 0, 1) := by decide +kernel
theorem dX6_meanGrade_63 : decode cX6_meanGrade 63 = .ok (.getfield 39, 3) := by decide +kernel
theorem dX6_meanGrade_66 : decode cX6_meanGrade 66 = .ok (.ifCond .le 7, 3) := by decide +kernel
theorem dX6_meanGrade_69 : decode cX6_meanGrade 69 = .ok (.dconst 0, 1) := by decide +kernel
theorem dX6_meanGrade_70 : decode cX6_meanGrade 70 = .ok (.goto 8, 3) := by decide +kernel
theorem dX6_meanGrade_73 : decode cX6_meanGrade 73 = .ok (.iload_n 2, 1) := by decide +kernel
theorem dX6_meanGrade_74 : decode cX6_meanGrade 74 = .ok (.i2d, 1) := by decide +kernel
theorem dX6_meanGrade_75 : decode cX6_meanGrade 75 = .ok (.iload_n 1, 1) := by decide +kernel
theorem dX6_meanGrade_76 : decode cX6_meanGrade 76 = .ok (.i2d, 1) := by decide +kernel
theorem dX6_meanGrade_77 : decode cX6_meanGrade 77 = .ok (.ddiv, 1) := by decide +kernel
theorem dX6_meanGrade_78 : decode cX6_meanGrade 78 = .ok (.dreturn, 1) := by decide +kernel
theorem dX6_brokenShare_0 : decode cX6_brokenShare 0 = .ok (.aload_n 0, 1) := by decide +kernel
theorem dX6_brokenShare_1 : decode cX6_brokenShare 1 = .ok (.getfield 9, 3) := by decide +kernel
theorem dX6_brokenShare_4 : decode cX6_brokenShare 4 = .ok (.iconst 0, 1) := by decide +kernel
theorem dX6_brokenShare_5 : decode cX6_brokenShare 5 = .ok (.iaload, 1) := by decide +kernel
theorem dX6_brokenShare_6 : decode cX6_brokenShare 6 = .ok (.istore_n 1, 1) := by decide +kernel
theorem dX6_brokenShare_7 : decode cX6_brokenShare 7 = .ok (.aload_n 0, 1) := by decide +kernel
theorem dX6_brokenShare_8 : decode cX6_brokenShare 8 = .ok (.iload_n 1, 1) := by decide +kernel
theorem dX6_brokenShare_9 : decode cX6_brokenShare 9 = .ok (.ifCond .ne 7, 3) := by decide +kernel
theorem dX6_brokenShare_12 : decode cX6_brokenShare 12 = .ok (.iconst 1, 1) := by decide +kernel
theorem dX6_brokenShare_13 : decode cX6_brokenShare 13 = .ok (.goto 4, 3) := by decide +kernel
theorem dX6_brokenShare_16 : decode cX6_brokenShare 16 = .ok (.iconst 0, 1) := by decide +kernel
theorem dX6_brokenShare_17 : decode cX6_brokenShare 17 = .ok (.putfield 39, 3) := by decide +kernel
theorem dX6_brokenShare_20 : decode cX6_brokenShare 20 = .ok (.aload_n 0, 1) := by decide +kernel
theorem dX6_brokenShare_21 : decode cX6_brokenShare 21 = .ok (.getfield 39, 3) := by decide +kernel
theorem dX6_brokenShare_24 : decode cX6_brokenShare 24 = .ok (.ifCond .le 7, 3) := by decide +kernel
theorem dX6_brokenShare_27 : decode cX6_brokenShare 27 = .ok (.fconst 0, 1) := by decide +kernel
theorem dX6_brokenShare_28 : decode cX6_brokenShare 28 = .ok (.goto 11, 3) := by decide +kernel
theorem dX6_brokenShare_31 : decode cX6_brokenShare 31 = .ok (.aload_n 0, 1) := by decide +kernel
theorem dX6_brokenShare_32 : decode cX6_brokenShare 32 = .ok (.invokevirtual 249, 3) := by decide +kernel
theorem dX6_brokenShare_35 : decode cX6_brokenShare 35 = .ok (.i2f, 1) := by decide +kernel
theorem dX6_brokenShare_36 : decode cX6_brokenShare 36 = .ok (.iload_n 1, 1) := by decide +kernel
theorem dX6_brokenShare_37 : decode cX6_brokenShare 37 = .ok (.i2f, 1) := by decide +kernel
theorem dX6_brokenShare_38 : decode cX6_brokenShare 38 = .ok (.fdiv, 1) := by decide +kernel
theorem dX6_brokenShare_39 : decode cX6_brokenShare 39 = .ok (.freturn, 1) := by decide +kernel
theorem dX6_undo_0 : decode cX6_undo 0 = .ok (.aload_n 0, 1) := by decide +kernel
theorem dX6_undo_1 : decode cX6_undo 1 = .ok (.aload_n 0, 1) := by decide +kernel
theorem dX6_undo_2 : decode cX6_undo 2 = .ok (.getfield 48, 3) := by decide +kernel
theorem dX6_undo_5 : decode cX6_undo 5 = .ok (.ifCond .ne 7, 3) := by decide +kernel
theorem dX6_undo_8 : decode cX6_undo 8 = .ok (.iconst 1, 1) := by decide +kernel
theorem dX6_undo_9 : decode cX6_undo 9 = .ok (.goto 4, 3) := by decide +kernel
theorem dX6_undo_12 : decode cX6_undo 12 = .ok (.iconst 0, 1) := by decide +kernel
theorem dX6_undo_13 : decode cX6_undo 13 = .ok (.putfield 39, 3) := by decide +kernel
theorem dX6_undo_16 : decode cX6_undo 16 = .ok (.aload_n 0, 1) := by decide +kernel
theorem dX6_undo_17 : decode cX6_undo 17 = .ok (.getfield 39, 3) := by decide +kernel
theorem dX6_undo_20 : decode cX6_undo 20 = .ok (.ifCond .le 5, 3) := by decide +kernel
theorem dX6_undo_23 : decode cX6_undo 23 = .ok (.iconst 0, 1) := by decide +kernel
theorem dX6_undo_24 : decode cX6_undo 24 = .ok (.ireturn, 1) := by decide +kernel
theorem dX6_undo_25 : decode cX6_undo 25 = .ok (.aload_n 0, 1) := by decide +kernel
theorem dX6_undo_26 : decode cX6_undo 26 = .ok (.dup, 1) := by decide +kernel
theorem dX6_undo_27 : decode cX6_undo 27 = .ok (.getfield 48, 3) := by decide +kernel
theorem dX6_undo_30 : decode cX6_undo 30 = .ok (.iconst 1, 1) := by decide +kernel
theorem dX6_undo_31 : decode cX6_undo 31 = .ok (.isub, 1) := by decide +kernel
theorem dX6_undo_32 : decode cX6_undo 32 = .ok (.putfield 48, 3) := by decide +kernel
theorem dX6_undo_35 : decode cX6_undo 35 = .ok (.aload_n 0, 1) := by decide +kernel
theorem dX6_undo_36 : decode cX6_undo 36 = .ok (.getfield 22, 3) := by decide +kernel
theorem dX6_undo_39 : decode cX6_undo 39 = .ok (.bipush 99, 2) := by decide +kernel
theorem dX6_undo_41 : decode cX6_undo 41 = .ok (.aload_n 0, 1) := by decide +kernel
theorem dX6_undo_42 : decode cX6_undo 42 = .ok (.getfield 48, 3) := by decide +kernel
theorem dX6_undo_45 : decode cX6_undo 45 = .ok (.imul, 1) := by decide +kernel
theorem dX6_undo_46 : decode cX6_undo 46 = .ok (.aload_n 0, 1) := by decide +kernel
theorem dX6_undo_47 : decode cX6_undo 47 = .ok (.getfield 9, 3) := by decide +kernel
theorem dX6_undo_50 : decode cX6_undo 50 = .ok (.iconst 0, 1) := by decide +kernel
theorem dX6_undo_51 : decode cX6_undo 51 = .ok (.bipush 99, 2) := by decide +kernel
theorem dX6_undo_53 : decode cX6_undo 53 = .ok (.invokestatic 42, 3) := by decide +kernel
theorem dX6_undo_56 : decode cX6_undo 56 = .ok (.aload_n 0, 1) := by decide +kernel
theorem dX6_undo_57 : decode cX6_undo 57 = .ok (.getfield 48, 3) := by decide +kernel
theorem dX6_undo_60 : decode cX6_undo 60 = .ok (.ireturn, 1) := by decide +kernel
theorem dX6_save_0 : decode cX6_save 0 = .ok (.aload_n 0, 1) := by decide +kernel
theorem dX6_save_1 : decode cX6_save 1 = .ok (.iconst 0, 1) := by decide +kernel
theorem dX6_save_2 : decode cX6_save 2 = .ok (.putfield 39, 3) := by decide +kernel
theorem dX6_save_5 : decode cX6_save 5 = .ok (.aload_n 0, 1) := by decide +kernel
theorem dX6_save_6 : decode cX6_save 6 = .ok (.getfield 9, 3) := by decide +kernel
theorem dX6_save_9 : decode cX6_save 9 = .ok (.iconst 0, 1) := by decide +kernel
theorem dX6_save_10 : decode cX6_save 10 = .ok (.aload_n 0, 1) := by decide +kernel
theorem dX6_save_11 : decode cX6_save 11 = .ok (.getfield 19, 3) := by decide +kernel
theorem dX6_save_14 : decode cX6_save 14 = .ok (.iconst 0, 1) := by decide +kernel
theorem dX6_save_15 : decode cX6_save 15 = .ok (.bipush 99, 2) := by decide +kernel
theorem dX6_save_17 : decode cX6_save 17 = .ok (.invokestatic 42, 3) := by decide +kernel
theorem dX6_save_20 : decode cX6_save 20 = .ok (.aload_n 0, 1) := by decide +kernel
theorem dX6_save_21 : decode cX6_save 21 = .ok (.iconst 1, 1) := by decide +kernel
theorem dX6_save_22 : decode cX6_save 22 = .ok (.putfield 252, 3) := by decide +kernel
theorem dX6_save_25 : decode cX6_save 25 = .ok (.aload_n 0, 1) := by decide +kernel
theorem dX6_save_26 : decode cX6_save 26 = .ok (.getfield 9, 3) := by decide +kernel
theorem dX6_save_29 : decode cX6_save 29 = .ok (.iconst 0, 1) := by decide +kernel
theorem dX6_save_30 : decode cX6_save 30 = .ok (.iaload, 1) := by decide +kernel
theorem dX6_save_31 : decode cX6_save 31 = .ok (.ireturn, 1) := by decide +kernel
theorem dX6_restore_0 : decode cX6_restore 0 = .ok (.aload_n 0, 1) := by decide +kernel
theorem dX6_restore_1 : decode cX6_restore 1 = .ok (.aload_n 0, 1) := by decide +kernel
theorem dX6_restore_2 : decode cX6_restore 2 = .ok (.getfield 252, 3) := by decide +kernel
theorem dX6_restore_5 : decode cX6_restore 5 = .ok (.ifCond .eq 7, 3) := by decide +kernel
theorem dX6_restore_8 : decode cX6_restore 8 = .ok (.iconst 0, 1) := by decide +kernel
theorem dX6_restore_9 : decode cX6_restore 9 = .ok (.goto 4, 3) := by decide +kernel
theorem dX6_restore_12 : decode cX6_restore 12 = .ok (.iconst 1, 1) := by decide +kernel
theorem dX6_restore_13 : decode cX6_restore 13 = .ok (.putfield 39, 3) := by decide +kernel
theorem dX6_restore_16 : decode cX6_restore 16 = .ok (.aload_n 0, 1) := by decide +kernel
theorem dX6_restore_17 : decode cX6_restore 17 = .ok (.getfield 39, 3) := by decide +kernel
theorem dX6_restore_20 : decode cX6_restore 20 = .ok (.ifCond .le 5, 3) := by decide +kernel
theorem dX6_restore_23 : decode cX6_restore 23 = .ok (.iconst 0, 1) := by decide +kernel
theorem dX6_restore_24 : decode cX6_restore 24 = .ok (.ireturn, 1) := by decide +kernel
theorem dX6_restore_25 : decode cX6_restore 25 = .ok (.aload_n 0, 1) := by decide +kernel
theorem dX6_restore_26 : decode cX6_restore 26 = .ok (.getfield 19, 3) := by decide +kernel
theorem dX6_restore_29 : decode cX6_restore 29 = .ok (.iconst 0, 1) := by decide +kernel
theorem dX6_restore_30 : decode cX6_restore 30 = .ok (.aload_n 0, 1) := by decide +kernel
theorem dX6_restore_31 : decode cX6_restore 31 = .ok (.getfield 9, 3) := by decide +kernel
theorem dX6_restore_34 : decode cX6_restore 34 = .ok (.iconst 0, 1) := by decide +kernel
theorem dX6_restore_35 : decode cX6_restore 35 = .ok (.bipush 99, 2) := by decide +kernel
theorem dX6_restore_37 : decode cX6_restore 37 = .ok (.invokestatic 42, 3) := by decide +kernel
theorem dX6_restore_40 : decode cX6_restore 40 = .ok (.aload_n 0, 1) := by decide +kernel
theorem dX6_restore_41 : decode cX6_restore 41 = .ok (.iconst 0, 1) := by decide +kernel
theorem dX6_restore_42 : decode cX6_restore 42 = .ok (.putfield 48, 3) := by decide +kernel
theorem dX6_restore_45 : decode cX6_restore 45 = .ok (.aload_n 0, 1) := by decide +kernel
theorem dX6_restore_46 : decode cX6_restore 46 = .ok (.getfield 9, 3) := by decide +kernel
theorem dX6_restore_49 : decode cX6_restore 49 = .ok (.iconst 0, 1) := by decide +kernel
theorem dX6_restore_50 : decode cX6_restore 50 = .ok (.iaload, 1) := by decide +kernel
theorem dX6_restore_51 : decode cX6_restore 51 = .ok (.ireturn, 1) := by decide +kernel
