theorem dX5_init_0 : decode cX5_init 0 = .ok (.aload_n 0, 1) := by decide +kernel
theorem dX5_init_1 : decode cX5_init 1 = .ok (.invokespecial 1, 3) := by decide +kernel
theorem dX5_init_4 : decode cX5_init 4 = .ok (.aload_n 0, 1) := by decide +kernel
theorem dX5_init_5 : decode cX5_init 5 = .ok (.new 7, 3) := by decide +kernel
theorem dX5_init_8 : decode cX5_init 8 = .ok (.dup, 1) := by decide +kernel
theorem dX5_init_9 : decode cX5_init 9 = .ok (.invokespecial 9, 3) := by decide +kernel
theorem dX5_init_12 : decode cX5_init 12 = .ok (.putfield 10, 3) := by decide +kernel
theorem dX5_init_15 : decode cX5_init 15 = .ok (.aload_n 0, 1) := by decide +kernel
theorem dX5_init_16 : decode cX5_init 16 = .ok (.new 7, 3) := by decide +kernel
theorem dX5_init_19 : decode cX5_init 19 = .ok (.dup, 1) := by decide +kernel
theorem dX5_init_20 : decode cX5_init 20 = .ok (.invokespecial 9, 3) := by decide +kernel
theorem dX5_init_23 : decode cX5_init 23 = .ok (.putfield 16, 3) := by decide +kernel
theorem dX5_init_26 : decode cX5_init 26 = .ok (.aload_n 0, 1) := by decide +kernel
theorem dX5_init_27 : decode cX5_init 27 = .ok (.new 7, 3) := by decide +kernel
theorem dX5_init_30 : decode cX5_init 30 = .ok (.dup, 1) := by decide +kernel
theorem dX5_init_31 : decode cX5_init 31 = .ok (.invokespecial 9, 3) := by decide +kernel
theorem dX5_init_34 : decode cX5_init 34 = .ok (.putfield 19, 3) := by decide +kernel
theorem dX5_init_37 : decode cX5_init 37 = .ok (.aload_n 0, 1) := by decide +kernel
theorem dX5_init_38 : decode cX5_init 38 = .ok (.new 22, 3) := by decide +kernel
theorem dX5_init_41 : decode cX5_init 41 = .ok (.dup, 1) := by decide +kernel
theorem dX5_init_42 : decode cX5_init 42 = .ok (.invokespecial 24, 3) := by decide +kernel
theorem dX5_init_45 : decode cX5_init 45 = .ok (.putfield 25, 3) := by decide +kernel
theorem dX5_init_48 : decode cX5_init 48 = .ok (.aload_n 0, 1) := by decide +kernel
theorem dX5_init_49 : decode cX5_init 49 = .ok (.new 29, 3) := by decide +kernel
theorem dX5_init_52 : decode cX5_init 52 = .ok (.dup, 1) := by decide +kernel
theorem dX5_init_53 : decode cX5_init 53 = .ok (.invokespecial 31, 3) := by decide +kernel
theorem dX5_init_56 : decode cX5_init 56 = .ok (.putfield 32, 3) := by decide +kernel
theorem dX5_init_59 : decode cX5_init 59 = .ok (.aload_n 0, 1) := by decide +kernel
theorem dX5_init_60 : decode cX5_init 60 = .ok (.new 36, 3) := by decide +kernel
theorem dX5_init_63 : decode cX5_init 63 = .ok (.dup, 1) := by decide +kernel
theorem dX5_init_64 : decode cX5_init 64 = .ok (.invokespecial 38, 3) := by decide +kernel
theorem dX5_init_67 : decode cX5_init 67 = .ok (.putfield 39, 3) := by decide +kernel
theorem dX5_init_70 : decode cX5_init 70 = .ok (.aload_n 0, 1) := by decide +kernel
theorem dX5_init_71 : decode cX5_init 71 = .ok (.iconst 0, 1) := by decide +kernel
theorem dX5_init_72 : decode cX5_init 72 = .ok (.putfield 43, 3) := by decide +kernel
theorem dX5_init_75 : decode cX5_init 75 = .ok (.aload_n 0, 1) := by decide +kernel
theorem dX5_init_76 : decode cX5_init 76 = .ok (.iconst (-1), 1) := by decide +kernel
theorem dX5_init_77 : decode cX5_init 77 = .ok (.putfield 47, 3) := by decide +kernel
theorem dX5_init_80 : decode cX5_init 80 = .ok (.aload_n 0, 1) := by decide +kernel
theorem dX5_init_81 : decode cX5_init 81 = .ok (.iconst 0, 1) := by decide +kernel
theorem dX5_init_82 : decode cX5_init 82 = .ok (.putfield 51, 3) := by decide +kernel
theorem dX5_init_85 : decode cX5_init 85 = .ok (.aload_n 0, 1) := by decide +kernel
theorem dX5_init_86 : decode cX5_init 86 = .ok (.iconst 0, 1) := by decide +kernel
theorem dX5_init_87 : decode cX5_init 87 = .ok (.putfield 54, 3) := by decide +kernel
theorem dX5_init_90 : decode cX5_init 90 = .ok (.aload_n 0, 1) := by decide +kernel
theorem dX5_init_91 : decode cX5_init 91 = .ok (.iconst 0, 1) := by decide +kernel
theorem dX5_init_92 : decode cX5_init 92 = .ok (.putfield 57, 3) := by decide +kernel
theorem dX5_init_95 : decode cX5_init 95 = .ok (.return_, 1) := by decide +kernel
theorem dX5_cup_0 : decode cX5_cup 0 = .ok (.aload_n 0, 1) := by decide +kernel
theorem dX5_cup_1 : decode cX5_cup 1 = .ok (.iconst 1, 1) := by decide +kernel
theorem dX5_cup_2 : decode cX5_cup 2 = .ok (.iload_n 1, 1) := by decide +kernel
theorem dX5_cup_3 : decode cX5_cup 3 = .ok (.iload_n 2, 1) := by decide +kernel
theorem dX5_cup_4 : decode cX5_cup 4 = .ok (.invokevirtual 60, 3) := by decide +kernel
theorem dX5_cup_7 : decode cX5_cup 7 = .ok (.ireturn, 1) := by decide +kernel
theorem dX5_lamp_0 : decode cX5_lamp 0 = .ok (.aload_n 0, 1) := by decide +kernel
theorem dX5_lamp_1 : decode cX5_lamp 1 = .ok (.iconst 2, 1) := by decide +kernel
theorem dX5_lamp_2 : decode cX5_lamp 2 = .ok (.iload_n 1, 1) := by decide +kernel
theorem dX5_lamp_3 : decode cX5_lamp 3 = .ok (.iload_n 2, 1) := by decide +kernel
theorem dX5_lamp_4 : decode cX5_lamp 4 = .ok (.invokevirtual 60, 3) := by decide +kernel
theorem dX5_lamp_7 : decode cX5_lamp 7 = .ok (.ireturn, 1) := by decide +kernel
theorem dX5_cat_0 : decode cX5_cat 0 = .ok (.aload_n 0, 1) := by decide +kernel
theorem dX5_cat_1 : decode cX5_cat 1 = .ok (.iconst 3, 1) := by decide +kernel
theorem dX5_cat_2 : decode cX5_cat 2 = .ok (.iload_n 1, 1) := by decide +kernel
theorem dX5_cat_3 : decode cX5_cat 3 = .ok (.iload_n 2, 1) := by decide +kernel
theorem dX5_cat_4 : decode cX5_cat 4 = .ok (.invokevirtual 60, 3) := by decide +kernel
theorem dX5_cat_7 : decode cX5_cat 7 = .ok (.ireturn, 1) := by decide +kernel
theorem dX5_take_0 : decode cX5_take 0 = .ok (.aload_n 0, 1) := by decide +kernel
theorem dX5_take_1 : decode cX5_take 1 = .ok (.iconst 4, 1) := by decide +kernel
theorem dX5_take_2 : decode cX5_take 2 = .ok (.iload_n 1, 1) := by decide +kernel
theorem dX5_take_3 : decode cX5_take 3 = .ok (.iconst 0, 1) := by decide +kernel
theorem dX5_take_4 : decode cX5_take 4 = .ok (.invokevirtual 64, 3) := by decide +kernel
theorem dX5_take_7 : decode cX5_take 7 = .ok (.ifCond .eq 13, 3) := by decide +kernel
theorem dX5_take_10 : decode cX5_take 10 = .ok (.new 67, 3) := by decide +kernel
theorem dX5_take_13 : decode cX5_take 13 = .ok (.dup, 1) := by decide +kernel
theorem dX5_take_14 : decode cX5_take 14 = .ok (.ldc 69, 2) := by decide +kernel
theorem dX5_take_16 : decode cX5_take 16 = .ok (.invokespecial 71, 3) := by decide +kernel
theorem dX5_take_19 : decode cX5_take 19 = .ok (.athrow, 1) := by decide +kernel
theorem dX5_take_20 : decode cX5_take 20 = .ok (.aload_n 0, 1) := by decide +kernel
theorem dX5_take_21 : decode cX5_take 21 = .ok (.getfield 57, 3) := by decide +kernel
theorem dX5_take_24 : decode cX5_take 24 = .ok (.ireturn, 1) := by decide +kernel
theorem dX5_cue_0 : decode cX5_cue 0 = .ok (.aload_n 0, 1) := by decide +kernel
theorem dX5_cue_1 : decode cX5_cue 1 = .ok (.iconst 5, 1) := by decide +kernel
theorem dX5_cue_2 : decode cX5_cue 2 = .ok (.iload_n 1, 1) := by decide +kernel
theorem dX5_cue_3 : decode cX5_cue 3 = .ok (.iload_n 2, 1) := by decide +kernel
theorem dX5_cue_4 : decode cX5_cue 4 = .ok (.invokevirtual 64, 3) := by decide +kernel
theorem dX5_cue_7 : decode cX5_cue 7 = .ok (.istore_n 3, 1) := by decide +kernel
theorem dX5_cue_8 : decode cX5_cue 8 = .ok (.iload_n 3, 1) := by decide +kernel
theorem dX5_cue_9 : decode cX5_cue 9 = .ok (.iconst 1, 1) := by decide +kernel
theorem dX5_cue_10 : decode cX5_cue 10 = .ok (.if_icmp .ne 13, 3) := by decide +kernel
theorem dX5_cue_13 : decode cX5_cue 13 = .ok (.new 67, 3) := by decide +kernel
theorem dX5_cue_16 : decode cX5_cue 16 = .ok (.dup, 1) := by decide +kernel
theorem dX5_cue_17 : decode cX5_cue 17 = .ok (.ldc 69, 2) := by decide +kernel
theorem dX5_cue_19 : decode cX5_cue 19 = .ok (.invokespecial 71, 3) := by decide +kernel
theorem dX5_cue_22 : decode cX5_cue 22 = .ok (.athrow, 1) := by decide +kernel
theorem dX5_cue_23 : decode cX5_cue 23 = .ok (.iload_n 3, 1) := by decide +kernel
theorem dX5_cue_24 : decode cX5_cue 24 = .ok (.iconst 2, 1) := by decide +kernel
theorem dX5_cue_25 : decode cX5_cue 25 = .ok (.if_icmp .ne 13, 3) := by decide +kernel
theorem dX5_cue_28 : decode cX5_cue 28 = .ok (.new 74, 3) := by decide +kernel
theorem dX5_cue_31 : decode cX5_cue 31 = .ok (.dup, 1) := by decide +kernel
theorem dX5_cue_32 : decode cX5_cue 32 = .ok (.ldc 76, 2) := by decide +kernel
theorem dX5_cue_34 : decode cX5_cue 34 = .ok (.invokespecial 78, 3) := by decide +kernel
theorem dX5_cue_37 : decode cX5_cue 37 = .ok (.athrow, 1) := by decide +kernel
theorem dX5_cue_38 : decode cX5_cue 38 = .ok (.iload_n 3, 1) := by decide +kernel
theorem dX5_cue_39 : decode cX5_cue 39 = .ok (.iconst 3, 1) := by decide +kernel
theorem dX5_cue_40 : decode cX5_cue 40 = .ok (.if_icmp .ne 13, 3) := by decide +kernel
theorem dX5_cue_43 : decode cX5_cue 43 = .ok (.new 79, 3) := by decide +kernel
theorem dX5_cue_46 : decode cX5_cue 46 = .ok (.dup, 1) := by decide +kernel
theorem dX5_cue_47 : decode cX5_cue 47 = .ok (.ldc 81, 2) := by decide +kernel
theorem dX5_cue_49 : decode cX5_cue 49 = .ok (.invokespecial 83, 3) := by decide +kernel
theorem dX5_cue_52 : decode cX5_cue 52 = .ok (.athrow, 1) := by decide +kernel
theorem dX5_cue_53 : decode cX5_cue 53 = .ok (.aload_n 0, 1) := by decide +kernel
theorem dX5_cue_54 : decode cX5_cue 54 = .ok (.getfield 57, 3) := by decide +kernel
theorem dX5_cue_57 : decode cX5_cue 57 = .ok (.ireturn, 1) := by decide +kernel
theorem dX5_set_0 : decode cX5_set 0 = .ok (.aload_n 0, 1) := by decide +kernel
theorem dX5_set_1 : decode cX5_set 1 = .ok (.bipush 6, 2) := by decide +kernel
theorem dX5_set_3 : decode cX5_set 3 = .ok (.iload_n 1, 1) := by decide +kernel
theorem dX5_set_4 : decode cX5_set 4 = .ok (.invokevirtual 84, 3) := by decide +kernel
theorem dX5_set_7 : decode cX5_set 7 = .ok (.ireturn, 1) := by decide +kernel
theorem dX5_shock_0 : decode cX5_shock 0 = .ok (.aload_n 0, 1) := by decide +kernel
theorem dX5_shock_1 : decode cX5_shock 1 = .ok (.bipush 7, 2) := by decide +kernel
theorem dX5_shock_3 : decode cX5_shock 3 = .ok (.iconst 0, 1) := by decide +kernel
theorem dX5_shock_4 : decode cX5_shock 4 = .ok (.iconst 0, 1) := by decide +kernel
theorem dX5_shock_5 : decode cX5_shock 5 = .ok (.invokevirtual 64, 3) := by decide +kernel
theorem dX5_shock_8 : decode cX5_shock 8 = .ok (.pop, 1) := by decide +kernel
theorem dX5_shock_9 : decode cX5_shock 9 = .ok (.aload_n 0, 1) := by decide +kernel
theorem dX5_shock_10 : decode cX5_shock 10 = .ok (.getfield 57, 3) := by decide +kernel
theorem dX5_shock_13 : decode cX5_shock 13 = .ok (.ireturn, 1) := by decide +kernel
theorem dX5_add_0 : decode cX5_add 0 = .ok (.aload_n 0, 1) := by decide +kernel
theorem dX5_add_1 : decode cX5_add 1 = .ok (.bipush 8, 2) := by decide +kernel
theorem dX5_add_3 : decode cX5_add 3 = .ok (.iload_n 1, 1) := by decide +kernel
theorem dX5_add_4 : decode cX5_add 4 = .ok (.invokevirtual 84, 3) := by decide +kernel
theorem dX5_add_7 : decode cX5_add 7 = .ok (.ireturn, 1) := by decide +kernel
theorem dX5_perform_0 : decode cX5_perform 0 = .ok (.aload_n 0, 1) := by decide +kernel
theorem dX5_perform_1 : decode cX5_perform 1 = .ok (.bipush 9, 2) := by decide +kernel
theorem dX5_perform_3 : decode cX5_perform 3 = .ok (.iconst 0, 1) := by decide +kernel
theorem dX5_perform_4 : decode cX5_perform 4 = .ok (.iconst 0, 1) := by decide +kernel
theorem dX5_perform_5 : decode cX5_perform 5 = .ok (.invokevirtual 64, 3) := by decide +kernel
theorem dX5_perform_8 : decode cX5_perform 8 = .ok (.ifCond .eq 13, 3) := by decide +kernel
theorem dX5_perform_11 : decode cX5_perform 11 = .ok (.new 79, 3) := by decide +kernel
theorem dX5_perform_14 : decode cX5_perform 14 = .ok (.dup, 1) := by decide +kernel
theorem dX5_perform_15 : decode cX5_perform 15 = .ok (.ldc 88, 2) := by decide +kernel
theorem dX5_perform_17 : decode cX5_perform 17 = .ok (.invokespecial 83, 3) := by decide +kernel
theorem dX5_perform_20 : decode cX5_perform 20 = .ok (.athrow, 1) := by decide +kernel
theorem dX5_perform_21 : decode cX5_perform 21 = .ok (.aload_n 0, 1) := by decide +kernel
theorem dX5_perform_22 : decode cX5_perform 22 = .ok (.getfield 57, 3) := by decide +kernel
theorem dX5_perform_25 : decode cX5_perform 25 = .ok (.ireturn, 1) := by decide +kernel
theorem dX5_quiet_0 : decode cX5_quiet 0 = .ok (.aload_n 0, 1) := by decide +kernel
theorem dX5_quiet_1 : decode cX5_quiet 1 = .ok (.bipush 10, 2) := by decide +kernel
theorem dX5_quiet_3 : decode cX5_quiet 3 = .ok (.iconst 0, 1) := by decide +kernel
theorem dX5_quiet_4 : decode cX5_quiet 4 = .ok (.iconst 0, 1) := by decide +kernel
theorem dX5_quiet_5 : decode cX5_quiet 5 = .ok (.invokevirtual 64, 3) := by decide +kernel
theorem dX5_quiet_8 : decode cX5_quiet 8 = .ok (.pop, 1) := by decide +kernel
theorem dX5_quiet_9 : decode cX5_quiet 9 = .ok (.aload_n 0, 1) := by decide +kernel
theorem dX5_quiet_10 : decode cX5_quiet 10 = .ok (.getfield 57, 3) := by decide +kernel
theorem dX5_quiet_13 : decode cX5_quiet 13 = .ok (.ireturn, 1) := by decide +kernel
theorem dX5_propOf_0 : decode cX5_propOf 0 = .ok (.aload_n 0, 1) := by decide +kernel
theorem dX5_propOf_1 : decode cX5_propOf 1 = .ok (.iload_n 1, 1) := by decide +kernel
theorem dX5_propOf_2 : decode cX5_propOf 2 = .ok (.invokevirtual 90, 3) := by decide +kernel
theorem dX5_propOf_5 : decode cX5_propOf 5 = .ok (.astore_n 3, 1) := by decide +kernel
theorem dX5_propOf_6 : decode cX5_propOf 6 = .ok (.iload_n 2, 1) := by decide +kernel
theorem dX5_propOf_7 : decode cX5_propOf 7 = .ok (.tableswitch 84 0 6 #[41, 46, 51, 56, 61, 74, 79], 41) := by decide +kernel
theorem dX5_propOf_48 : decode cX5_propOf 48 = .ok (.aload_n 3, 1) := by decide +kernel
theorem dX5_propOf_49 : decode cX5_propOf 49 = .ok (.getfield 94, 3) := by decide +kernel
theorem dX5_propOf_52 : decode cX5_propOf 52 = .ok (.ireturn, 1) := by decide +kernel
theorem dX5_propOf_53 : decode cX5_propOf 53 = .ok (.aload_n 3, 1) := by decide +kernel
theorem dX5_propOf_54 : decode cX5_propOf 54 = .ok (.getfield 99, 3) := by decide +kernel
theorem dX5_propOf_57 : decode cX5_propOf 57 = .ok (.ireturn, 1) := by decide +kernel
theorem dX5_propOf_58 : decode cX5_propOf 58 = .ok (.aload_n 3, 1) := by decide +kernel
theorem dX5_propOf_59 : decode cX5_propOf 59 = .ok (.getfield 102, 3) := by decide +kernel
theorem dX5_propOf_62 : decode cX5_propOf 62 = .ok (.ireturn, 1) := by decide +kernel
theorem dX5_propOf_63 : decode cX5_propOf 63 = .ok (.aload_n 3, 1) := by decide +kernel
theorem dX5_propOf_64 : decode cX5_propOf 64 = .ok (.getfield 105, 3) := by decide +kernel
theorem dX5_propOf_67 : decode cX5_propOf 67 = .ok (.ireturn, 1) := by decide +kernel
theorem dX5_propOf_68 : decode cX5_propOf 68 = .ok (.aload_n 3, 1) := by decide +kernel
theorem dX5_propOf_69 : decode cX5_propOf 69 = .ok (.getfield 108, 3) := by decide +kernel
theorem dX5_propOf_72 : decode cX5_propOf 72 = .ok (.ifCond .eq 7, 3) := by decide +kernel
theorem dX5_propOf_75 : decode cX5_propOf 75 = .ok (.iconst 1, 1) := by decide +kernel
theorem dX5_propOf_76 : decode cX5_propOf 76 = .ok (.goto 4, 3) := by decide +kernel
theorem dX5_propOf_79 : decode cX5_propOf 79 = .ok (.iconst 0, 1) := by decide +kernel
theorem dX5_propOf_80 : decode cX5_propOf 80 = .ok (.ireturn, 1) := by decide +kernel
theorem dX5_propOf_81 : decode cX5_propOf 81 = .ok (.aload_n 3, 1) := by decide +kernel
theorem dX5_propOf_82 : decode cX5_propOf 82 = .ok (.getfield 111, 3) := by decide +kernel
theorem dX5_propOf_85 : decode cX5_propOf 85 = .ok (.ireturn, 1) := by decide +kernel
theorem dX5_propOf_86 : decode cX5_propOf 86 = .ok (.aload_n 3, 1) := by decide +kernel
theorem dX5_propOf_87 : decode cX5_propOf 87 = .ok (.getfield 114, 3) := by decide +kernel
theorem dX5_propOf_90 : decode cX5_propOf 90 = .ok (.ireturn, 1) := by decide +kernel
theorem dX5_propOf_91 : decode cX5_propOf 91 = .ok (.new 74, 3) := by decide +kernel
theorem dX5_propOf_94 : decode cX5_propOf 94 = .ok (.dup, 1) := by decide +kernel
theorem dX5_propOf_95 : decode cX5_propOf 95 = .ok (.ldc 117, 2) := by decide +kernel
theorem dX5_propOf_97 : decode cX5_propOf 97 = .ok (.invokespecial 78, 3) := by decide +kernel
theorem dX5_propOf_100 : decode cX5_propOf 100 = .ok (.athrow, 1) := by decide +kernel
theorem dX5_programme_0 : decode cX5_programme 0 = .ok (.iload_n 1, 1) := by decide +kernel
theorem dX5_programme_1 : decode cX5_programme 1 = .ok (.ifCond .lt 14, 3) := by decide +kernel
theorem dX5_programme_4 : decode cX5_programme 4 = .ok (.iload_n 1, 1) := by decide +kernel
theorem dX5_programme_5 : decode cX5_programme 5 = .ok (.aload_n 0, 1) := by decide +kernel
theorem dX5_programme_6 : decode cX5_programme 6 = .ok (.getfield 10, 3) := by decide +kernel
theorem dX5_programme_9 : decode cX5_programme 9 = .ok (.getfield 119, 3) := by decide +kernel
theorem dX5_programme_12 : decode cX5_programme 12 = .ok (.if_icmp .lt 13, 3) := by decide +kernel
theorem dX5_programme_15 : decode cX5_programme 15 = .ok (.new 122, 3) := by decide +kernel
theorem dX5_programme_18 : decode cX5_programme 18 = .ok (.dup, 1) := by decide +kernel
theorem dX5_programme_19 : decode cX5_programme 19 = .ok (.ldc 124, 2) := by decide +kernel
theorem dX5_programme_21 : decode cX5_programme 21 = .ok (.invokespecial 126, 3) := by decide +kernel
theorem dX5_programme_24 : decode cX5_programme 24 = .ok (.athrow, 1) := by decide +kernel
theorem dX5_programme_25 : decode cX5_programme 25 = .ok (.aload_n 0, 1) := by decide +kernel
theorem dX5_programme_26 : decode cX5_programme 26 = .ok (.getfield 10, 3) := by decide +kernel
theorem dX5_programme_29 : decode cX5_programme 29 = .ok (.iload_n 1, 1) := by decide +kernel
theorem dX5_programme_30 : decode cX5_programme 30 = .ok (.invokevirtual 127, 3) := by decide +kernel
theorem dX5_programme_33 : decode cX5_programme 33 = .ok (.ireturn, 1) := by decide +kernel
theorem dX5_on_0 : decode cX5_on 0 = .ok (.iload_n 1, 1) := by decide +kernel
theorem dX5_on_1 : decode cX5_on 1 = .ok (.invokestatic 131, 3) := by decide +kernel
theorem dX5_on_4 : decode cX5_on 4 = .ok (.ifCond .eq 10, 3) := by decide +kernel
theorem dX5_on_7 : decode cX5_on 7 = .ok (.iload_n 2, 1) := by decide +kernel
theorem dX5_on_8 : decode cX5_on 8 = .ok (.invokestatic 135, 3) := by decide +kernel
theorem dX5_on_11 : decode cX5_on 11 = .ok (.ifCond .ne 13, 3) := by decide +kernel
theorem dX5_on_14 : decode cX5_on 14 = .ok (.new 74, 3) := by decide +kernel
theorem dX5_on_17 : decode cX5_on 17 = .ok (.dup, 1) := by decide +kernel
theorem dX5_on_18 : decode cX5_on 18 = .ok (.ldc 138, 2) := by decide +kernel
theorem dX5_on_20 : decode cX5_on 20 = .ok (.invokespecial 78, 3) := by decide +kernel
theorem dX5_on_23 : decode cX5_on 23 = .ok (.athrow, 1) := by decide +kernel
theorem dX5_on_24 : decode cX5_on 24 = .ok (.iload_n 3, 1) := by decide +kernel
theorem dX5_on_25 : decode cX5_on 25 = .ok (.ifCond .eq 15, 3) := by decide +kernel
theorem dX5_on_28 : decode cX5_on 28 = .ok (.aload_n 0, 1) := by decide +kernel
theorem dX5_on_29 : decode cX5_on 29 = .ok (.getfield 10, 3) := by decide +kernel
theorem dX5_on_32 : decode cX5_on 32 = .ok (.iload_n 1, 1) := by decide +kernel
theorem dX5_on_33 : decode cX5_on 33 = .ok (.iload_n 2, 1) := by decide +kernel
theorem dX5_on_34 : decode cX5_on 34 = .ok (.invokevirtual 140, 3) := by decide +kernel
theorem dX5_on_37 : decode cX5_on 37 = .ok (.goto 12, 3) := by decide +kernel
theorem dX5_on_40 : decode cX5_on 40 = .ok (.aload_n 0, 1) := by decide +kernel
theorem dX5_on_41 : decode cX5_on 41 = .ok (.getfield 10, 3) := by decide +kernel
theorem dX5_on_44 : decode cX5_on 44 = .ok (.iload_n 1, 1) := by decide +kernel
theorem dX5_on_45 : decode cX5_on 45 = .ok (.iload_n 2, 1) := by decide +kernel
theorem dX5_on_46 : decode cX5_on 46 = .ok (.invokevirtual 143, 3) := by decide +kernel
theorem dX5_on_49 : decode cX5_on 49 = .ok (.ireturn, 1) := by decide +kernel
theorem dX5_wouldMark_0 : decode cX5_wouldMark 0 = .ok (.iload_n 1, 1) := by decide +kernel
theorem dX5_wouldMark_1 : decode cX5_wouldMark 1 = .ok (.invokestatic 146, 3) := by decide +kernel
theorem dX5_wouldMark_4 : decode cX5_wouldMark 4 = .ok (.aload_n 0, 1) := by decide +kernel
theorem dX5_wouldMark_5 : decode cX5_wouldMark 5 = .ok (.iload_n 1, 1) := by decide +kernel
theorem dX5_wouldMark_6 : decode cX5_wouldMark 6 = .ok (.invokevirtual 150, 3) := by decide +kernel
theorem dX5_wouldMark_9 : decode cX5_wouldMark 9 = .ok (.ireturn, 1) := by decide +kernel
theorem dX5_wouldBreak_0 : decode cX5_wouldBreak 0 = .ok (.iload_n 1, 1) := by decide +kernel
theorem dX5_wouldBreak_1 : decode cX5_wouldBreak 1 = .ok (.invokestatic 146, 3) := by decide +kernel
theorem dX5_wouldBreak_4 : decode cX5_wouldBreak 4 = .ok (.iload_n 2, 1) := by decide +kernel
theorem dX5_wouldBreak_5 : decode cX5_wouldBreak 5 = .ok (.ifCond .eq 14, 3) := by decide +kernel
theorem dX5_wouldBreak_8 : decode cX5_wouldBreak 8 = .ok (.aload_n 0, 1) := by decide +kernel
theorem dX5_wouldBreak_9 : decode cX5_wouldBreak 9 = .ok (.getfield 10, 3) := by decide +kernel
theorem dX5_wouldBreak_12 : decode cX5_wouldBreak 12 = .ok (.iload_n 1, 1) := by decide +kernel
theorem dX5_wouldBreak_13 : decode cX5_wouldBreak 13 = .ok (.invokevirtual 153, 3) := by decide +kernel
theorem dX5_wouldBreak_16 : decode cX5_wouldBreak 16 = .ok (.goto 8, 3) := by decide +kernel
theorem dX5_wouldBreak_19 : decode cX5_wouldBreak 19 = .ok (.aload_n 0, 1) := by decide +kernel
theorem dX5_wouldBreak_20 : decode cX5_wouldBreak 20 = .ok (.iload_n 1, 1) := by decide +kernel
theorem dX5_wouldBreak_21 : decode cX5_wouldBreak 21 = .ok (.invokevirtual 156, 3) := by decide +kernel
theorem dX5_wouldBreak_24 : decode cX5_wouldBreak 24 = .ok (.ireturn, 1) := by decide +kernel
theorem dX5_programmeBreaks_0 : decode cX5_programmeBreaks 0 = .ok (.aload_n 0, 1) := by decide +kernel
theorem dX5_programmeBreaks_1 : decode cX5_programmeBreaks 1 = .ok (.getfield 16, 3) := by decide +kernel
theorem dX5_programmeBreaks_4 : decode cX5_programmeBreaks 4 = .ok (.aload_n 0, 1) := by decide +kernel
theorem dX5_programmeBreaks_5 : decode cX5_programmeBreaks 5 = .ok (.getfield 10, 3) := by decide +kernel
theorem dX5_programmeBreaks_8 : decode cX5_programmeBreaks 8 = .ok (.invokevirtual 159, 3) := by decide +kernel
theorem dX5_programmeBreaks_11 : decode cX5_programmeBreaks 11 = .ok (.aload_n 0, 1) := by decide +kernel
theorem dX5_programmeBreaks_12 : decode cX5_programmeBreaks 12 = .ok (.getfield 16, 3) := by decide +kernel
theorem dX5_programmeBreaks_15 : decode cX5_programmeBreaks 15 = .ok (.invokevirtual 163, 3) := by decide +kernel
theorem dX5_programmeBreaks_18 : decode cX5_programmeBreaks 18 = .ok (.pop, 1) := by decide +kernel
theorem dX5_programmeBreaks_19 : decode cX5_programmeBreaks 19 = .ok (.aload_n 0, 1) := by decide +kernel
theorem dX5_programmeBreaks_20 : decode cX5_programmeBreaks 20 = .ok (.getfield 16, 3) := by decide +kernel
theorem dX5_programmeBreaks_23 : decode cX5_programmeBreaks 23 = .ok (.getfield 167, 3) := by decide +kernel
theorem dX5_programmeBreaks_26 : decode cX5_programmeBreaks 26 = .ok (.aload_n 0, 1) := by decide +kernel
theorem dX5_programmeBreaks_27 : decode cX5_programmeBreaks 27 = .ok (.getfield 10, 3) := by decide +kernel
theorem dX5_programmeBreaks_30 : decode cX5_programmeBreaks 30 = .ok (.getfield 167, 3) := by decide +kernel
theorem dX5_programmeBreaks_33 : decode cX5_programmeBreaks 33 = .ok (.isub, 1) := by decide +kernel
theorem dX5_programmeBreaks_34 : decode cX5_programmeBreaks 34 = .ok (.ireturn, 1) := by decide +kernel
theorem dX5_best_0 : decode cX5_best 0 = .ok (.iconst 1, 1) := by decide +kernel
theorem dX5_best_1 : decode cX5_best 1 = .ok (.istore_n 1, 1) := by decide +kernel
theorem dX5_best_2 : decode cX5_best 2 = .ok (.aload_n 0, 1) := by decide +kernel
theorem dX5_best_3 : decode cX5_best 3 = .ok (.iconst 1, 1) := by decide +kernel
theorem dX5_best_4 : decode cX5_best 4 = .ok (.invokevirtual 150, 3) := by decide +kernel
theorem dX5_best_7 : decode cX5_best 7 = .ok (.istore_n 2, 1) := by decide +kernel
theorem dX5_best_8 : decode cX5_best 8 = .ok (.iconst 2, 1) := by decide +kernel
theorem dX5_best_9 : decode cX5_best 9 = .ok (.istore_n 3, 1) := by decide +kernel
theorem dX5_best_10 : decode cX5_best 10 = .ok (.iload_n 3, 1) := by decide +kernel
theorem dX5_best_11 : decode cX5_best 11 = .ok (.bipush 9, 2) := by decide +kernel
theorem dX5_best_13 : decode cX5_best 13 = .ok (.if_icmp .gt 27, 3) := by decide +kernel
theorem dX5_best_16 : decode cX5_best 16 = .ok (.aload_n 0, 1) := by decide +kernel
theorem dX5_best_17 : decode cX5_best 17 = .ok (.iload_n 3, 1) := by decide +kernel
theorem dX5_best_18 : decode cX5_best 18 = .ok (.invokevirtual 150, 3) := by decide +kernel
theorem dX5_best_21 : decode cX5_best 21 = .ok (.istore 4, 2) := by decide +kernel
theorem dX5_best_23 : decode cX5_best 23 = .ok (.iload 4, 2) := by decide +kernel
theorem dX5_best_25 : decode cX5_best 25 = .ok (.iload_n 2, 1) := by decide +kernel
theorem dX5_best_26 : decode cX5_best 26 = .ok (.if_icmp .le 8, 3) := by decide +kernel
theorem dX5_best_29 : decode cX5_best 29 = .ok (.iload_n 3, 1) := by decide +kernel
theorem dX5_best_30 : decode cX5_best 30 = .ok (.istore_n 1, 1) := by decide +kernel
theorem dX5_best_31 : decode cX5_best 31 = .ok (.iload 4, 2) := by decide +kernel
theorem dX5_best_33 : decode cX5_best 33 = .ok (.istore_n 2, 1) := by decide +kernel
theorem dX5_best_34 : decode cX5_best 34 = .ok (.iinc 3 1, 3) := by decide +kernel
theorem dX5_best_37 : decode cX5_best 37 = .ok (.goto (-27), 3) := by decide +kernel
theorem dX5_best_40 : decode cX5_best 40 = .ok (.iload_n 1, 1) := by decide +kernel
theorem dX5_best_41 : decode cX5_best 41 = .ok (.ireturn, 1) := by decide +kernel
theorem dX5_leastBreaking_0 : decode cX5_leastBreaking 0 = .ok (.iconst 1, 1) := by decide +kernel
theorem dX5_leastBreaking_1 : decode cX5_leastBreaking 1 = .ok (.istore_n 1, 1) := by decide +kernel
theorem dX5_leastBreaking_2 : decode cX5_leastBreaking 2 = .ok (.iload_n 1, 1) := by decide +kernel
theorem dX5_leastBreaking_3 : decode cX5_leastBreaking 3 = .ok (.bipush 9, 2) := by decide +kernel
theorem dX5_leastBreaking_5 : decode cX5_leastBreaking 5 = .ok (.if_icmp .gt 19, 3) := by decide +kernel
theorem dX5_leastBreaking_8 : decode cX5_leastBreaking 8 = .ok (.aload_n 0, 1) := by decide +kernel
theorem dX5_leastBreaking_9 : decode cX5_leastBreaking 9 = .ok (.iload_n 1, 1) := by decide +kernel
theorem dX5_leastBreaking_10 : decode cX5_leastBreaking 10 = .ok (.invokevirtual 156, 3) := by decide +kernel
theorem dX5_leastBreaking_13 : decode cX5_leastBreaking 13 = .ok (.ifCond .le 5, 3) := by decide +kernel
theorem dX5_leastBreaking_16 : decode cX5_leastBreaking 16 = .ok (.iload_n 1, 1) := by decide +kernel
theorem dX5_leastBreaking_17 : decode cX5_leastBreaking 17 = .ok (.ireturn, 1) := by decide +kernel
theorem dX5_leastBreaking_18 : decode cX5_leastBreaking 18 = .ok (.iinc 1 1, 3) := by decide +kernel
theorem dX5_leastBreaking_21 : decode cX5_leastBreaking 21 = .ok (.goto (-19), 3) := by decide +kernel
theorem dX5_leastBreaking_24 : decode cX5_leastBreaking 24 = .ok (.new 122, 3) := by decide +kernel
theorem dX5_leastBreaking_27 : decode cX5_leastBreaking 27 = .ok (.dup, 1) := by decide +kernel
theorem dX5_leastBreaking_28 : decode cX5_leastBreaking 28 = .ok (.ldc 170, 2) := by decide +kernel
theorem dX5_leastBreaking_30 : decode cX5_leastBreaking 30 = .ok (.invokespecial 126, 3) := by decide +kernel
theorem dX5_leastBreaking_33 : decode cX5_leastBreaking 33 = .ok (.athrow, 1) := by decide +kernel
theorem dX5_shocksFor_0 : decode cX5_shocksFor 0 = .ok (.aload_n 0, 1) := by decide +kernel
theorem dX5_shocksFor_1 : decode cX5_shocksFor 1 = .ok (.iload_n 1, 1) := by decide +kernel
theorem dX5_shocksFor_2 : decode cX5_shocksFor 2 = .ok (.invokevirtual 90, 3) := by decide +kernel
theorem dX5_shocksFor_5 : decode cX5_shocksFor 5 = .ok (.getfield 108, 3) := by decide +kernel
theorem dX5_shocksFor_8 : decode cX5_shocksFor 8 = .ok (.ifCond .eq 5, 3) := by decide +kernel
theorem dX5_shocksFor_11 : decode cX5_shocksFor 11 = .ok (.iconst 0, 1) := by decide +kernel
theorem dX5_shocksFor_12 : decode cX5_shocksFor 12 = .ok (.ireturn, 1) := by decide +kernel
theorem dX5_shocksFor_13 : decode cX5_shocksFor 13 = .ok (.aload_n 0, 1) := by decide +kernel
theorem dX5_shocksFor_14 : decode cX5_shocksFor 14 = .ok (.getfield 16, 3) := by decide +kernel
theorem dX5_shocksFor_17 : decode cX5_shocksFor 17 = .ok (.aload_n 0, 1) := by decide +kernel
theorem dX5_shocksFor_18 : decode cX5_shocksFor 18 = .ok (.getfield 10, 3) := by decide +kernel
theorem dX5_shocksFor_21 : decode cX5_shocksFor 21 = .ok (.invokevirtual 159, 3) := by decide +kernel
theorem dX5_shocksFor_24 : decode cX5_shocksFor 24 = .ok (.iconst 1, 1) := by decide +kernel
theorem dX5_shocksFor_25 : decode cX5_shocksFor 25 = .ok (.istore_n 2, 1) := by decide +kernel
theorem dX5_shocksFor_26 : decode cX5_shocksFor 26 = .ok (.iload_n 2, 1) := by decide +kernel
theorem dX5_shocksFor_27 : decode cX5_shocksFor 27 = .ok (.bipush 30, 2) := by decide +kernel
theorem dX5_shocksFor_29 : decode cX5_shocksFor 29 = .ok (.if_icmp .gt 40, 3) := by decide +kernel
theorem dX5_shocksFor_32 : decode cX5_shocksFor 32 = .ok (.aload_n 0, 1) := by decide +kernel
theorem dX5_shocksFor_33 : decode cX5_shocksFor 33 = .ok (.getfield 16, 3) := by decide +kernel
theorem dX5_shocksFor_36 : decode cX5_shocksFor 36 = .ok (.aload_n 0, 1) := by decide +kernel
theorem dX5_shocksFor_37 : decode cX5_shocksFor 37 = .ok (.getfield 10, 3) := by decide +kernel
theorem dX5_shocksFor_40 : decode cX5_shocksFor 40 = .ok (.getfield 172, 3) := by decide +kernel
theorem dX5_shocksFor_43 : decode cX5_shocksFor 43 = .ok (.invokevirtual 175, 3) := by decide +kernel
theorem dX5_shocksFor_46 : decode cX5_shocksFor 46 = .ok (.pop, 1) := by decide +kernel
theorem dX5_shocksFor_47 : decode cX5_shocksFor 47 = .ok (.aload_n 0, 1) := by decide +kernel
theorem dX5_shocksFor_48 : decode cX5_shocksFor 48 = .ok (.getfield 16, 3) := by decide +kernel
theorem dX5_shocksFor_51 : decode cX5_shocksFor 51 = .ok (.iload_n 1, 1) := by decide +kernel
theorem dX5_shocksFor_52 : decode cX5_shocksFor 52 = .ok (.invokevirtual 178, 3) := by decide +kernel
theorem dX5_shocksFor_55 : decode cX5_shocksFor 55 = .ok (.getfield 108, 3) := by decide +kernel
theorem dX5_shocksFor_58 : decode cX5_shocksFor 58 = .ok (.ifCond .eq 5, 3) := by decide +kernel
theorem dX5_shocksFor_61 : decode cX5_shocksFor 61 = .ok (.iload_n 2, 1) := by decide +kernel
theorem dX5_shocksFor_62 : decode cX5_shocksFor 62 = .ok (.ireturn, 1) := by decide +kernel
theorem dX5_shocksFor_63 : decode cX5_shocksFor 63 = .ok (.iinc 2 1, 3) := by decide +kernel
theorem dX5_shocksFor_66 : decode cX5_shocksFor 66 = .ok (.goto (-40), 3) := by decide +kernel
theorem dX5_shocksFor_69 : decode cX5_shocksFor 69 = .ok (.iconst 0, 1) := by decide +kernel
theorem dX5_shocksFor_70 : decode cX5_shocksFor 70 = .ok (.ireturn, 1) := by decide +kernel
theorem dX5_isBroken_0 : decode cX5_isBroken 0 = .ok (.aload_n 0, 1) := by decide +kernel
theorem dX5_isBroken_1 : decode cX5_isBroken 1 = .ok (.iload_n 1, 1) := by decide +kernel
theorem dX5_isBroken_2 : decode cX5_isBroken 2 = .ok (.invokevirtual 90, 3) := by decide +kernel
theorem dX5_isBroken_5 : decode cX5_isBroken 5 = .ok (.getfield 108, 3) := by decide +kernel
theorem dX5_isBroken_8 : decode cX5_isBroken 8 = .ok (.ireturn, 1) := by decide +kernel
theorem dX5_cupAt_0 : decode cX5_cupAt 0 = .ok (.aload_n 0, 1) := by decide +kernel
theorem dX5_cupAt_1 : decode cX5_cupAt 1 = .ok (.iconst 1, 1) := by decide +kernel
theorem dX5_cupAt_2 : decode cX5_cupAt 2 = .ok (.iload_n 1, 1) := by decide +kernel
theorem dX5_cupAt_3 : decode cX5_cupAt 3 = .ok (.invokevirtual 181, 3) := by decide +kernel
theorem dX5_cupAt_6 : decode cX5_cupAt 6 = .ok (.ireturn, 1) := by decide +kernel
theorem dX5_lampAt_0 : decode cX5_lampAt 0 = .ok (.aload_n 0, 1) := by decide +kernel
theorem dX5_lampAt_1 : decode cX5_lampAt 1 = .ok (.iconst 2, 1) := by decide +kernel
theorem dX5_lampAt_2 : decode cX5_lampAt 2 = .ok (.iload_n 1, 1) := by decide +kernel
theorem dX5_lampAt_3 : decode cX5_lampAt 3 = .ok (.invokevirtual 181, 3) := by decide +kernel
theorem dX5_lampAt_6 : decode cX5_lampAt 6 = .ok (.ireturn, 1) := by decide +kernel
theorem dX5_catAt_0 : decode cX5_catAt 0 = .ok (.aload_n 0, 1) := by decide +kernel
theorem dX5_catAt_1 : decode cX5_catAt 1 = .ok (.iconst 3, 1) := by decide +kernel
theorem dX5_catAt_2 : decode cX5_catAt 2 = .ok (.iload_n 1, 1) := by decide +kernel
theorem dX5_catAt_3 : decode cX5_catAt 3 = .ok (.invokevirtual 181, 3) := by decide +kernel
theorem dX5_catAt_6 : decode cX5_catAt 6 = .ok (.ireturn, 1) := by decide +kernel
theorem dX5_onFloor_0 : decode cX5_onFloor 0 = .ok (.iload_n 1, 1) := by decide +kernel
theorem dX5_onFloor_1 : decode cX5_onFloor 1 = .ok (.iconst 1, 1) := by decide +kernel
theorem dX5_onFloor_2 : decode cX5_onFloor 2 = .ok (.if_icmp .lt 15, 3) := by decide +kernel
theorem dX5_onFloor_5 : decode cX5_onFloor 5 = .ok (.iload_n 1, 1) := by decide +kernel
theorem dX5_onFloor_6 : decode cX5_onFloor 6 = .ok (.iconst 3, 1) := by decide +kernel
theorem dX5_onFloor_7 : decode cX5_onFloor 7 = .ok (.if_icmp .gt 10, 3) := by decide +kernel
theorem dX5_onFloor_10 : decode cX5_onFloor 10 = .ok (.iload_n 2, 1) := by decide +kernel
theorem dX5_onFloor_11 : decode cX5_onFloor 11 = .ok (.invokestatic 135, 3) := by decide +kernel
theorem dX5_onFloor_14 : decode cX5_onFloor 14 = .ok (.ifCond .ne 13, 3) := by decide +kernel
theorem dX5_onFloor_17 : decode cX5_onFloor 17 = .ok (.new 74, 3) := by decide +kernel
theorem dX5_onFloor_20 : decode cX5_onFloor 20 = .ok (.dup, 1) := by decide +kernel
theorem dX5_onFloor_21 : decode cX5_onFloor 21 = .ok (.ldc 184, 2) := by decide +kernel
theorem dX5_onFloor_23 : decode cX5_onFloor 23 = .ok (.invokespecial 78, 3) := by decide +kernel
theorem dX5_onFloor_26 : decode cX5_onFloor 26 = .ok (.athrow, 1) := by decide +kernel
theorem dX5_onFloor_27 : decode cX5_onFloor 27 = .ok (.aload_n 0, 1) := by decide +kernel
theorem dX5_onFloor_28 : decode cX5_onFloor 28 = .ok (.getfield 10, 3) := by decide +kernel
theorem dX5_onFloor_31 : decode cX5_onFloor 31 = .ok (.iload_n 1, 1) := by decide +kernel
theorem dX5_onFloor_32 : decode cX5_onFloor 32 = .ok (.iload_n 2, 1) := by decide +kernel
theorem dX5_onFloor_33 : decode cX5_onFloor 33 = .ok (.invokevirtual 186, 3) := by decide +kernel
theorem dX5_onFloor_36 : decode cX5_onFloor 36 = .ok (.ireturn, 1) := by decide +kernel
theorem dX5_line_0 : decode cX5_line 0 = .ok (.aload_n 0, 1) := by decide +kernel
theorem dX5_line_1 : decode cX5_line 1 = .ok (.getfield 39, 3) := by decide +kernel
theorem dX5_line_4 : decode cX5_line 4 = .ok (.aload_n 0, 1) := by decide +kernel
theorem dX5_line_5 : decode cX5_line 5 = .ok (.iload_n 1, 1) := by decide +kernel
theorem dX5_line_6 : decode cX5_line 6 = .ok (.invokevirtual 90, 3) := by decide +kernel
theorem dX5_line_9 : decode cX5_line 9 = .ok (.invokevirtual 189, 3) := by decide +kernel
theorem dX5_line_12 : decode cX5_line 12 = .ok (.aload_n 0, 1) := by decide +kernel
theorem dX5_line_13 : decode cX5_line 13 = .ok (.getfield 39, 3) := by decide +kernel
theorem dX5_line_16 : decode cX5_line 16 = .ok (.getfield 193, 3) := by decide +kernel
theorem dX5_line_19 : decode cX5_line 19 = .ok (.ireturn, 1) := by decide +kernel
theorem dX5_programmeLine_0 : decode cX5_programmeLine 0 = .ok (.aload_n 0, 1) := by decide +kernel
theorem dX5_programmeLine_1 : decode cX5_programmeLine 1 = .ok (.getfield 39, 3) := by decide +kernel
theorem dX5_programmeLine_4 : decode cX5_programmeLine 4 = .ok (.aload_n 0, 1) := by decide +kernel
theorem dX5_programmeLine_5 : decode cX5_programmeLine 5 = .ok (.getfield 10, 3) := by decide +kernel
theorem dX5_programmeLine_8 : decode cX5_programmeLine 8 = .ok (.invokevirtual 196, 3) := by decide +kernel
theorem dX5_programmeLine_11 : decode cX5_programmeLine 11 = .ok (.aload_n 0, 1) := by decide +kernel
theorem dX5_programmeLine_12 : decode cX5_programmeLine 12 = .ok (.getfield 39, 3) := by decide +kernel
theorem dX5_programmeLine_15 : decode cX5_programmeLine 15 = .ok (.getfield 193, 3) := by decide +kernel
theorem dX5_programmeLine_18 : decode cX5_programmeLine 18 = .ok (.ireturn, 1) := by decide +kernel
theorem dX5_character_0 : decode cX5_character 0 = .ok (.iload_n 1, 1) := by decide +kernel
theorem dX5_character_1 : decode cX5_character 1 = .ok (.ifCond .lt 14, 3) := by decide +kernel
theorem dX5_character_4 : decode cX5_character 4 = .ok (.iload_n 1, 1) := by decide +kernel
theorem dX5_character_5 : decode cX5_character 5 = .ok (.aload_n 0, 1) := by decide +kernel
theorem dX5_character_6 : decode cX5_character 6 = .ok (.getfield 39, 3) := by decide +kernel
theorem dX5_character_9 : decode cX5_character 9 = .ok (.getfield 193, 3) := by decide +kernel
theorem dX5_character_12 : decode cX5_character 12 = .ok (.if_icmp .lt 13, 3) := by decide +kernel
theorem dX5_character_15 : decode cX5_character 15 = .ok (.new 67, 3) := by decide +kernel
theorem dX5_character_18 : decode cX5_character 18 = .ok (.dup, 1) := by decide +kernel
theorem dX5_character_19 : decode cX5_character 19 = .ok (.ldc 199, 2) := by decide +kernel
theorem dX5_character_21 : decode cX5_character 21 = .ok (.invokespecial 71, 3) := by decide +kernel
theorem dX5_character_24 : decode cX5_character 24 = .ok (.athrow, 1) := by decide +kernel
theorem dX5_character_25 : decode cX5_character 25 = .ok (.aload_n 0, 1) := by decide +kernel
theorem dX5_character_26 : decode cX5_character 26 = .ok (.getfield 39, 3) := by decide +kernel
theorem dX5_character_29 : decode cX5_character 29 = .ok (.iload_n 1, 1) := by decide +kernel
theorem dX5_character_30 : decode cX5_character 30 = .ok (.invokevirtual 201, 3) := by decide +kernel
theorem dX5_character_33 : decode cX5_character 33 = .ok (.ireturn, 1) := by decide +kernel
theorem dX5_append_0 : decode cX5_append 0 = .ok (.aload_n 0, 1) := by decide +kernel
theorem dX5_append_1 : decode cX5_append 1 = .ok (.getfield 32, 3) := by decide +kernel
theorem dX5_append_4 : decode cX5_append 4 = .ok (.getfield 205, 3) := by decide +kernel
theorem dX5_append_7 : decode cX5_append 7 = .ok (.bipush 60, 2) := by decide +kernel
theorem dX5_append_9 : decode cX5_append 9 = .ok (.if_icmp .lt 13, 3) := by decide +kernel
theorem dX5_append_12 : decode cX5_append 12 = .ok (.new 206, 3) := by decide +kernel
theorem dX5_append_15 : decode cX5_append 15 = .ok (.dup, 1) := by decide +kernel
theorem dX5_append_16 : decode cX5_append 16 = .ok (.ldc 208, 2) := by decide +kernel
theorem dX5_append_18 : decode cX5_append 18 = .ok (.invokespecial 210, 3) := by decide +kernel
theorem dX5_append_21 : decode cX5_append 21 = .ok (.athrow, 1) := by decide +kernel
theorem dX5_append_22 : decode cX5_append 22 = .ok (.aload_n 0, 1) := by decide +kernel
theorem dX5_append_23 : decode cX5_append 23 = .ok (.getfield 32, 3) := by decide +kernel
theorem dX5_append_26 : decode cX5_append 26 = .ok (.iload_n 1, 1) := by decide +kernel
theorem dX5_append_27 : decode cX5_append 27 = .ok (.invokevirtual 211, 3) := by decide +kernel
theorem dX5_append_30 : decode cX5_append 30 = .ok (.aload_n 0, 1) := by decide +kernel
theorem dX5_append_31 : decode cX5_append 31 = .ok (.getfield 32, 3) := by decide +kernel
theorem dX5_append_34 : decode cX5_append 34 = .ok (.getfield 205, 3) := by decide +kernel
theorem dX5_append_37 : decode cX5_append 37 = .ok (.ireturn, 1) := by decide +kernel
theorem dX5_run_0 : decode cX5_run 0 = .ok (.aload_n 0, 1) := by decide +kernel
theorem dX5_run_1 : decode cX5_run 1 = .ok (.aload_n 0, 1) := by decide +kernel
theorem dX5_run_2 : decode cX5_run 2 = .ok (.getfield 32, 3) := by decide +kernel
theorem dX5_run_5 : decode cX5_run 5 = .ok (.invokevirtual 215, 3) := by decide +kernel
theorem dX5_run_8 : decode cX5_run 8 = .ok (.putfield 47, 3) := by decide +kernel
theorem dX5_run_11 : decode cX5_run 11 = .ok (.aload_n 0, 1) := by decide +kernel
theorem dX5_run_12 : decode cX5_run 12 = .ok (.getfield 32, 3) := by decide +kernel
theorem dX5_run_15 : decode cX5_run 15 = .ok (.iconst 0, 1) := by decide +kernel
theorem dX5_run_16 : decode cX5_run 16 = .ok (.putfield 205, 3) := by decide +kernel
theorem dX5_run_19 : decode cX5_run 19 = .ok (.aload_n 0, 1) := by decide +kernel
theorem dX5_run_20 : decode cX5_run 20 = .ok (.getfield 47, 3) := by decide +kernel
theorem dX5_run_23 : decode cX5_run 23 = .ok (.ifCond .lt 13, 3) := by decide +kernel
theorem dX5_run_26 : decode cX5_run 26 = .ok (.new 74, 3) := by decide +kernel
theorem dX5_run_29 : decode cX5_run 29 = .ok (.dup, 1) := by decide +kernel
theorem dX5_run_30 : decode cX5_run 30 = .ok (.ldc 218, 2) := by decide +kernel
theorem dX5_run_32 : decode cX5_run 32 = .ok (.invokespecial 78, 3) := by decide +kernel
theorem dX5_run_35 : decode cX5_run 35 = .ok (.athrow, 1) := by decide +kernel
theorem dX5_run_36 : decode cX5_run 36 = .ok (.aload_n 0, 1) := by decide +kernel
theorem dX5_run_37 : decode cX5_run 37 = .ok (.getfield 25, 3) := by decide +kernel
theorem dX5_run_40 : decode cX5_run 40 = .ok (.aload_n 0, 1) := by decide +kernel
theorem dX5_run_41 : decode cX5_run 41 = .ok (.getfield 10, 3) := by decide +kernel
theorem dX5_run_44 : decode cX5_run 44 = .ok (.invokevirtual 220, 3) := by decide +kernel
theorem dX5_run_47 : decode cX5_run 47 = .ok (.iconst 0, 1) := by decide +kernel
theorem dX5_run_48 : decode cX5_run 48 = .ok (.istore_n 1, 1) := by decide +kernel
theorem dX5_run_49 : decode cX5_run 49 = .ok (.iconst 0, 1) := by decide +kernel
theorem dX5_run_50 : decode cX5_run 50 = .ok (.istore_n 2, 1) := by decide +kernel
theorem dX5_run_51 : decode cX5_run 51 = .ok (.iload_n 2, 1) := by decide +kernel
theorem dX5_run_52 : decode cX5_run 52 = .ok (.aload_n 0, 1) := by decide +kernel
theorem dX5_run_53 : decode cX5_run 53 = .ok (.getfield 32, 3) := by decide +kernel
theorem dX5_run_56 : decode cX5_run 56 = .ok (.getfield 223, 3) := by decide +kernel
theorem dX5_run_59 : decode cX5_run 59 = .ok (.if_icmp .ge 42, 3) := by decide +kernel
theorem dX5_run_62 : decode cX5_run 62 = .ok (.iload_n 1, 1) := by decide +kernel
theorem dX5_run_63 : decode cX5_run 63 = .ok (.ifCond .ne 38, 3) := by decide +kernel
theorem dX5_run_66 : decode cX5_run 66 = .ok (.aload_n 0, 1) := by decide +kernel
theorem dX5_run_67 : decode cX5_run 67 = .ok (.aload_n 0, 1) := by decide +kernel
theorem dX5_run_68 : decode cX5_run 68 = .ok (.getfield 32, 3) := by decide +kernel
theorem dX5_run_71 : decode cX5_run 71 = .ok (.iload_n 2, 1) := by decide +kernel
theorem dX5_run_72 : decode cX5_run 72 = .ok (.invokevirtual 226, 3) := by decide +kernel
theorem dX5_run_75 : decode cX5_run 75 = .ok (.aload_n 0, 1) := by decide +kernel
theorem dX5_run_76 : decode cX5_run 76 = .ok (.getfield 32, 3) := by decide +kernel
theorem dX5_run_79 : decode cX5_run 79 = .ok (.iload_n 2, 1) := by decide +kernel
theorem dX5_run_80 : decode cX5_run 80 = .ok (.invokevirtual 229, 3) := by decide +kernel
theorem dX5_run_83 : decode cX5_run 83 = .ok (.aload_n 0, 1) := by decide +kernel
theorem dX5_run_84 : decode cX5_run 84 = .ok (.getfield 32, 3) := by decide +kernel
theorem dX5_run_87 : decode cX5_run 87 = .ok (.iload_n 2, 1) := by decide +kernel
theorem dX5_run_88 : decode cX5_run 88 = .ok (.invokevirtual 232, 3) := by decide +kernel
theorem dX5_run_91 : decode cX5_run 91 = .ok (.invokevirtual 235, 3) := by decide +kernel
theorem dX5_run_94 : decode cX5_run 94 = .ok (.istore_n 1, 1) := by decide +kernel
theorem dX5_run_95 : decode cX5_run 95 = .ok (.iinc 2 1, 3) := by decide +kernel
theorem dX5_run_98 : decode cX5_run 98 = .ok (.goto (-47), 3) := by decide +kernel
theorem dX5_run_101 : decode cX5_run 101 = .ok (.iload_n 1, 1) := by decide +kernel
theorem dX5_run_102 : decode cX5_run 102 = .ok (.ifCond .ne 18, 3) := by decide +kernel
theorem dX5_run_105 : decode cX5_run 105 = .ok (.aload_n 0, 1) := by decide +kernel
theorem dX5_run_106 : decode cX5_run 106 = .ok (.getfield 25, 3) := by decide +kernel
theorem dX5_run_109 : decode cX5_run 109 = .ok (.invokevirtual 238, 3) := by decide +kernel
theorem dX5_run_112 : decode cX5_run 112 = .ok (.aload_n 0, 1) := by decide +kernel
theorem dX5_run_113 : decode cX5_run 113 = .ok (.getfield 32, 3) := by decide +kernel
theorem dX5_run_116 : decode cX5_run 116 = .ok (.getfield 223, 3) := by decide +kernel
theorem dX5_run_119 : decode cX5_run 119 = .ok (.ireturn, 1) := by decide +kernel
theorem dX5_run_120 : decode cX5_run 120 = .ok (.aload_n 0, 1) := by decide +kernel
theorem dX5_run_121 : decode cX5_run 121 = .ok (.getfield 25, 3) := by decide +kernel
theorem dX5_run_124 : decode cX5_run 124 = .ok (.aload_n 0, 1) := by decide +kernel
theorem dX5_run_125 : decode cX5_run 125 = .ok (.getfield 10, 3) := by decide +kernel
theorem dX5_run_128 : decode cX5_run 128 = .ok (.invokevirtual 241, 3) := by decide +kernel
theorem dX5_run_131 : decode cX5_run 131 = .ok (.iload_n 1, 1) := by decide +kernel
theorem dX5_run_132 : decode cX5_run 132 = .ok (.iconst 3, 1) := by decide +kernel
theorem dX5_run_133 : decode cX5_run 133 = .ok (.if_icmp .ne 13, 3) := by decide +kernel
theorem dX5_run_136 : decode cX5_run 136 = .ok (.new 79, 3) := by decide +kernel
theorem dX5_run_139 : decode cX5_run 139 = .ok (.dup, 1) := by decide +kernel
theorem dX5_run_140 : decode cX5_run 140 = .ok (.ldc 244, 2) := by decide +kernel
theorem dX5_run_142 : decode cX5_run 142 = .ok (.invokespecial 83, 3) := by decide +kernel
theorem dX5_run_145 : decode cX5_run 145 = .ok (.athrow, 1) := by decide +kernel
theorem dX5_run_146 : decode cX5_run 146 = .ok (.new 74, 3) := by decide +kernel
theorem dX5_run_149 : decode cX5_run 149 = .ok (.dup, 1) := by decide +kernel
theorem dX5_run_150 : decode cX5_run 150 = .ok (.ldc 246, 2) := by decide +kernel
theorem dX5_run_152 : decode cX5_run 152 = .ok (.invokespecial 78, 3) := by decide +kernel
theorem dX5_run_155 : decode cX5_run 155 = .ok (.athrow, 1) := by decide +kernel
theorem dX5_refusal_0 : decode cX5_refusal 0 = .ok (.aload_n 0, 1) := by decide +kernel
theorem dX5_refusal_1 : decode cX5_refusal 1 = .ok (.getfield 51, 3) := by decide +kernel
theorem dX5_refusal_4 : decode cX5_refusal 4 = .ok (.ifCond .ne 13, 3) := by decide +kernel
theorem dX5_refusal_7 : decode cX5_refusal 7 = .ok (.new 122, 3) := by decide +kernel
theorem dX5_refusal_10 : decode cX5_refusal 10 = .ok (.dup, 1) := by decide +kernel
theorem dX5_refusal_11 : decode cX5_refusal 11 = .ok (.ldc 248, 2) := by decide +kernel
theorem dX5_refusal_13 : decode cX5_refusal 13 = .ok (.invokespecial 126, 3) := by decide +kernel
theorem dX5_refusal_16 : decode cX5_refusal 16 = .ok (.athrow, 1) := by decide +kernel
theorem dX5_refusal_17 : decode cX5_refusal 17 = .ok (.iload_n 1, 1) := by decide +kernel
theorem dX5_refusal_18 : decode cX5_refusal 18 = .ok (.ifCond .eq 10, 3) := by decide +kernel
theorem dX5_refusal_21 : decode cX5_refusal 21 = .ok (.aload_n 0, 1) := by decide +kernel
theorem dX5_refusal_22 : decode cX5_refusal 22 = .ok (.getfield 54, 3) := by decide +kernel
theorem dX5_refusal_25 : decode cX5_refusal 25 = .ok (.goto 7, 3) := by decide +kernel
theorem dX5_refusal_28 : decode cX5_refusal 28 = .ok (.aload_n 0, 1) := by decide +kernel
theorem dX5_refusal_29 : decode cX5_refusal 29 = .ok (.getfield 51, 3) := by decide +kernel
theorem dX5_refusal_32 : decode cX5_refusal 32 = .ok (.ireturn, 1) := by decide +kernel
theorem dX5_account_0 : decode cX5_account 0 = .ok (.iload_n 1, 1) := by decide +kernel
theorem dX5_account_1 : decode cX5_account 1 = .ok (.tableswitch 174 0 12 #[67, 75, 84, 93, 102, 110, 118, 126, 134, 142, 150, 158, 166], 67) := by decide +kernel
theorem dX5_account_68 : decode cX5_account 68 = .ok (.aload_n 0, 1) := by decide +kernel
theorem dX5_account_69 : decode cX5_account 69 = .ok (.getfield 10, 3) := by decide +kernel
theorem dX5_account_72 : decode cX5_account 72 = .ok (.getfield 250, 3) := by decide +kernel
theorem dX5_account_75 : decode cX5_account 75 = .ok (.ireturn, 1) := by decide +kernel
theorem dX5_account_76 : decode cX5_account 76 = .ok (.aload_n 0, 1) := by decide +kernel
theorem dX5_account_77 : decode cX5_account 77 = .ok (.getfield 10, 3) := by decide +kernel
theorem dX5_account_80 : decode cX5_account 80 = .ok (.iconst 1, 1) := by decide +kernel
theorem dX5_account_81 : decode cX5_account 81 = .ok (.invokevirtual 253, 3) := by decide +kernel
theorem dX5_account_84 : decode cX5_account 84 = .ok (.ireturn, 1) := by decide +kernel
theorem dX5_account_85 : decode cX5_account 85 = .ok (.aload_n 0, 1) := by decide +kernel
theorem dX5_account_86 : decode cX5_account 86 = .ok (.getfield 10, 3) := by decide +kernel
theorem dX5_account_89 : decode cX5_account 89 = .ok (.iconst 2, 1) := by decide +kernel
theorem dX5_account_90 : decode cX5_account 90 = .ok (.invokevirtual 253, 3) := by decide +kernel
theorem dX5_account_93 : decode cX5_account 93 = .ok (.ireturn, 1) := by decide +kernel
theorem dX5_account_94 : decode cX5_account 94 = .ok (.aload_n 0, 1) := by decide +kernel
theorem dX5_account_95 : decode cX5_account 95 = .ok (.getfield 10, 3) := by decide +kernel
theorem dX5_account_98 : decode cX5_account 98 = .ok (.iconst 3, 1) := by decide +kernel
theorem dX5_account_99 : decode cX5_account 99 = .ok (.invokevirtual 253, 3) := by decide +kernel
theorem dX5_account_102 : decode cX5_account 102 = .ok (.ireturn, 1) := by decide +kernel
theorem dX5_account_103 : decode cX5_account 103 = .ok (.aload_n 0, 1) := by decide +kernel
theorem dX5_account_104 : decode cX5_account 104 = .ok (.getfield 10, 3) := by decide +kernel
theorem dX5_account_107 : decode cX5_account 107 = .ok (.invokevirtual 256, 3) := by decide +kernel
theorem dX5_account_110 : decode cX5_account 110 = .ok (.ireturn, 1) := by decide +kernel
theorem dX5_account_111 : decode cX5_account 111 = .ok (.aload_n 0, 1) := by decide +kernel
theorem dX5_account_112 : decode cX5_account 112 = .ok (.getfield 10, 3) := by decide +kernel
theorem dX5_account_115 : decode cX5_account 115 = .ok (.getfield 172, 3) := by decide +kernel
theorem dX5_account_118 : decode cX5_account 118 = .ok (.ireturn, 1) := by decide +kernel
theorem dX5_account_119 : decode cX5_account 119 = .ok (.aload_n 0, 1) := by decide +kernel
theorem dX5_account_120 : decode cX5_account 120 = .ok (.getfield 10, 3) := by decide +kernel
theorem dX5_account_123 : decode cX5_account 123 = .ok (.getfield 259, 3) := by decide +kernel
theorem dX5_account_126 : decode cX5_account 126 = .ok (.ireturn, 1) := by decide +kernel
theorem dX5_account_127 : decode cX5_account 127 = .ok (.aload_n 0, 1) := by decide +kernel
theorem dX5_account_128 : decode cX5_account 128 = .ok (.getfield 10, 3) := by decide +kernel
theorem dX5_account_131 : decode cX5_account 131 = .ok (.getfield 262, 3) := by decide +kernel
theorem dX5_account_134 : decode cX5_account 134 = .ok (.ireturn, 1) := by decide +kernel
theorem dX5_account_135 : decode cX5_account 135 = .ok (.aload_n 0, 1) := by decide +kernel
theorem dX5_account_136 : decode cX5_account 136 = .ok (.getfield 10, 3) := by decide +kernel
theorem dX5_account_139 : decode cX5_account 139 = .ok (.getfield 265, 3) := by decide +kernel
theorem dX5_account_142 : decode cX5_account 142 = .ok (.ireturn, 1) := by decide +kernel
theorem dX5_account_143 : decode cX5_account 143 = .ok (.aload_n 0, 1) := by decide +kernel
theorem dX5_account_144 : decode cX5_account 144 = .ok (.getfield 10, 3) := by decide +kernel
theorem dX5_account_147 : decode cX5_account 147 = .ok (.getfield 167, 3) := by decide +kernel
theorem dX5_account_150 : decode cX5_account 150 = .ok (.ireturn, 1) := by decide +kernel
theorem dX5_account_151 : decode cX5_account 151 = .ok (.aload_n 0, 1) := by decide +kernel
theorem dX5_account_152 : decode cX5_account 152 = .ok (.getfield 10, 3) := by decide +kernel
theorem dX5_account_155 : decode cX5_account 155 = .ok (.getfield 119, 3) := by decide +kernel
theorem dX5_account_158 : decode cX5_account 158 = .ok (.ireturn, 1) := by decide +kernel
theorem dX5_account_159 : decode cX5_account 159 = .ok (.aload_n 0, 1) := by decide +kernel
theorem dX5_account_160 : decode cX5_account 160 = .ok (.getfield 32, 3) := by decide +kernel
theorem dX5_account_163 : decode cX5_account 163 = .ok (.getfield 205, 3) := by decide +kernel
theorem dX5_account_166 : decode cX5_account 166 = .ok (.ireturn, 1) := by decide +kernel
theorem dX5_account_167 : decode cX5_account 167 = .ok (.aload_n 0, 1) := by decide +kernel
theorem dX5_account_168 : decode cX5_account 168 = .ok (.getfield 25, 3) := by decide +kernel
theorem dX5_account_171 : decode cX5_account 171 = .ok (.getfield 268, 3) := by decide +kernel
theorem dX5_account_174 : decode cX5_account 174 = .ok (.ireturn, 1) := by decide +kernel
theorem dX5_account_175 : decode cX5_account 175 = .ok (.new 74, 3) := by decide +kernel
theorem dX5_account_178 : decode cX5_account 178 = .ok (.dup, 1) := by decide +kernel
theorem dX5_account_179 : decode cX5_account 179 = .ok (.ldc_w 271, 3) := by decide +kernel
theorem dX5_account_182 : decode cX5_account 182 = .ok (.invokespecial 78, 3) := by decide +kernel
theorem dX5_account_185 : decode cX5_account 185 = .ok (.athrow, 1) := by decide +kernel
theorem dX5_isWell_0 : decode cX5_isWell 0 = .ok (.aload_n 0, 1) := by decide +kernel
theorem dX5_isWell_1 : decode cX5_isWell 1 = .ok (.invokevirtual 273, 3) := by decide +kernel
theorem dX5_isWell_4 : decode cX5_isWell 4 = .ok (.ifCond .eq 24, 3) := by decide +kernel
theorem dX5_isWell_7 : decode cX5_isWell 7 = .ok (.aload_n 0, 1) := by decide +kernel
theorem dX5_isWell_8 : decode cX5_isWell 8 = .ok (.invokevirtual 277, 3) := by decide +kernel
theorem dX5_isWell_11 : decode cX5_isWell 11 = .ok (.ifCond .eq 17, 3) := by decide +kernel
theorem dX5_isWell_14 : decode cX5_isWell 14 = .ok (.aload_n 0, 1) := by decide +kernel
theorem dX5_isWell_15 : decode cX5_isWell 15 = .ok (.getfield 10, 3) := by decide +kernel
theorem dX5_isWell_18 : decode cX5_isWell 18 = .ok (.invokevirtual 280, 3) := by decide +kernel
theorem dX5_isWell_21 : decode cX5_isWell 21 = .ok (.ifCond .eq 7, 3) := by decide +kernel
theorem dX5_isWell_24 : decode cX5_isWell 24 = .ok (.iconst 1, 1) := by decide +kernel
theorem dX5_isWell_25 : decode cX5_isWell 25 = .ok (.goto 4, 3) := by decide +kernel
theorem dX5_isWell_28 : decode cX5_isWell 28 = .ok (.iconst 0, 1) := by decide +kernel
theorem dX5_isWell_29 : decode cX5_isWell 29 = .ok (.ireturn, 1) := by decide +kernel
theorem dX5_meanGrade_0 : decode cX5_meanGrade 0 = .ok (.aload_n 0, 1) := by decide +kernel
theorem dX5_meanGrade_1 : decode cX5_meanGrade 1 = .ok (.getfield 10, 3) := by decide +kernel
theorem dX5_meanGrade_4 : decode cX5_meanGrade 4 = .ok (.iconst 1, 1) := by decide +kernel
theorem dX5_meanGrade_5 : decode cX5_meanGrade 5 = .ok (.invokevirtual 253, 3) := by decide +kernel
theorem dX5_meanGrade_8 : decode cX5_meanGrade 8 = .ok (.istore_n 1, 1) := by decide +kernel
theorem dX5_meanGrade_9 : decode cX5_meanGrade 9 = .ok (.iload_n 1, 1) := by decide +kernel
theorem dX5_meanGrade_10 : decode cX5_meanGrade 10 = .ok (.ifCond .ne 14, 3) := by decide +kernel
theorem dX5_meanGrade_13 : decode cX5_meanGrade 13 = .ok (.new 283, 3) := by decide +kernel
theorem dX5_meanGrade_16 : decode cX5_meanGrade 16 = .ok (.dup, 1) := by decide +kernel
theorem dX5_meanGrade_17 : decode cX5_meanGrade 17 = .ok (.ldc_w 285, 3) := by decide +kernel
theorem dX5_meanGrade_20 : decode cX5_meanGrade 20 = .ok (.invokespecial 287, 3) := by decide +kernel
theorem dX5_meanGrade_23 : decode cX5_meanGrade 23 = .ok (.athrow, 1) := by decide +kernel
theorem dX5_meanGrade_24 : decode cX5_meanGrade 24 = .ok (.aload_n 0, 1) := by decide +kernel
theorem dX5_meanGrade_25 : decode cX5_meanGrade 25 = .ok (.getfield 10, 3) := by decide +kernel
theorem dX5_meanGrade_28 : decode cX5_meanGrade 28 = .ok (.invokevirtual 288, 3) := by decide +kernel
theorem dX5_meanGrade_31 : decode cX5_meanGrade 31 = .ok (.i2d, 1) := by decide +kernel
theorem dX5_meanGrade_32 : decode cX5_meanGrade 32 = .ok (.iload_n 1, 1) := by decide +kernel
theorem dX5_meanGrade_33 : decode cX5_meanGrade 33 = .ok (.i2d, 1) := by decide +kernel
theorem dX5_meanGrade_34 : decode cX5_meanGrade 34 = .ok (.ddiv, 1) := by decide +kernel
theorem dX5_meanGrade_35 : decode cX5_meanGrade 35 = .ok (.dreturn, 1) := by decide +kernel
theorem dX5_brokenShare_0 : decode cX5_brokenShare 0 = .ok (.aload_n 0, 1) := by decide +kernel
theorem dX5_brokenShare_1 : decode cX5_brokenShare 1 = .ok (.getfield 10, 3) := by decide +kernel
theorem dX5_brokenShare_4 : decode cX5_brokenShare 4 = .ok (.getfield 250, 3) := by decide +kernel
theorem dX5_brokenShare_7 : decode cX5_brokenShare 7 = .ok (.ifCond .ne 14, 3) := by decide +kernel
theorem dX5_brokenShare_10 : decode cX5_brokenShare 10 = .ok (.new 283, 3) := by decide +kernel
theorem dX5_brokenShare_13 : decode cX5_brokenShare 13 = .ok (.dup, 1) := by decide +kernel
theorem dX5_brokenShare_14 : decode cX5_brokenShare 14 = .ok (.ldc_w 291, 3) := by decide +kernel
theorem dX5_brokenShare_17 : decode cX5_brokenShare 17 = .ok (.invokespecial 287, 3) := by decide +kernel
theorem dX5_brokenShare_20 : decode cX5_brokenShare 20 = .ok (.athrow, 1) := by decide +kernel
theorem dX5_brokenShare_21 : decode cX5_brokenShare 21 = .ok (.aload_n 0, 1) := by decide +kernel
theorem dX5_brokenShare_22 : decode cX5_brokenShare 22 = .ok (.getfield 10, 3) := by decide +kernel
theorem dX5_brokenShare_25 : decode cX5_brokenShare 25 = .ok (.invokevirtual 256, 3) := by decide +kernel
theorem dX5_brokenShare_28 : decode cX5_brokenShare 28 = .ok (.i2f, 1) := by decide +kernel
theorem dX5_brokenShare_29 : decode cX5_brokenShare 29 = .ok (.aload_n 0, 1) := by decide +kernel
theorem dX5_brokenShare_30 : decode cX5_brokenShare 30 = .ok (.getfield 10, 3) := by decide +kernel
theorem dX5_brokenShare_33 : decode cX5_brokenShare 33 = .ok (.getfield 250, 3) := by decide +kernel
theorem dX5_brokenShare_36 : decode cX5_brokenShare 36 = .ok (.i2f, 1) := by decide +kernel
theorem dX5_brokenShare_37 : decode cX5_brokenShare 37 = .ok (.fdiv, 1) := by decide +kernel
theorem dX5_brokenShare_38 : decode cX5_brokenShare 38 = .ok (.freturn, 1) := by decide +kernel
theorem dX5_undo_0 : decode cX5_undo 0 = .ok (.aload_n 0, 1) := by decide +kernel
theorem dX5_undo_1 : decode cX5_undo 1 = .ok (.getfield 25, 3) := by decide +kernel
theorem dX5_undo_4 : decode cX5_undo 4 = .ok (.getfield 268, 3) := by decide +kernel
theorem dX5_undo_7 : decode cX5_undo 7 = .ok (.ifCond .ne 14, 3) := by decide +kernel
theorem dX5_undo_10 : decode cX5_undo 10 = .ok (.new 206, 3) := by decide +kernel
theorem dX5_undo_13 : decode cX5_undo 13 = .ok (.dup, 1) := by decide +kernel
theorem dX5_undo_14 : decode cX5_undo 14 = .ok (.ldc_w 293, 3) := by decide +kernel
theorem dX5_undo_17 : decode cX5_undo 17 = .ok (.invokespecial 210, 3) := by decide +kernel
theorem dX5_undo_20 : decode cX5_undo 20 = .ok (.athrow, 1) := by decide +kernel
theorem dX5_undo_21 : decode cX5_undo 21 = .ok (.aload_n 0, 1) := by decide +kernel
theorem dX5_undo_22 : decode cX5_undo 22 = .ok (.getfield 25, 3) := by decide +kernel
theorem dX5_undo_25 : decode cX5_undo 25 = .ok (.aload_n 0, 1) := by decide +kernel
theorem dX5_undo_26 : decode cX5_undo 26 = .ok (.getfield 10, 3) := by decide +kernel
theorem dX5_undo_29 : decode cX5_undo 29 = .ok (.invokevirtual 295, 3) := by decide +kernel
theorem dX5_undo_32 : decode cX5_undo 32 = .ok (.aload_n 0, 1) := by decide +kernel
theorem dX5_undo_33 : decode cX5_undo 33 = .ok (.getfield 25, 3) := by decide +kernel
theorem dX5_undo_36 : decode cX5_undo 36 = .ok (.getfield 268, 3) := by decide +kernel
theorem dX5_undo_39 : decode cX5_undo 39 = .ok (.ireturn, 1) := by decide +kernel
theorem dX5_isFloor_0 : decode cX5_isFloor 0 = .ok (.iload_n 0, 1) := by decide +kernel
theorem dX5_isFloor_1 : decode cX5_isFloor 1 = .ok (.ifCond .lt 12, 3) := by decide +kernel
theorem dX5_isFloor_4 : decode cX5_isFloor 4 = .ok (.iload_n 0, 1) := by decide +kernel
theorem dX5_isFloor_5 : decode cX5_isFloor 5 = .ok (.iconst 5, 1) := by decide +kernel
theorem dX5_isFloor_6 : decode cX5_isFloor 6 = .ok (.if_icmp .ge 7, 3) := by decide +kernel
theorem dX5_isFloor_9 : decode cX5_isFloor 9 = .ok (.iconst 1, 1) := by decide +kernel
theorem dX5_isFloor_10 : decode cX5_isFloor 10 = .ok (.goto 4, 3) := by decide +kernel
theorem dX5_isFloor_13 : decode cX5_isFloor 13 = .ok (.iconst 0, 1) := by decide +kernel
theorem dX5_isFloor_14 : decode cX5_isFloor 14 = .ok (.ireturn, 1) := by decide +kernel
theorem dX5_isStrength_0 : decode cX5_isStrength 0 = .ok (.iload_n 0, 1) := by decide +kernel
theorem dX5_isStrength_1 : decode cX5_isStrength 1 = .ok (.iconst 1, 1) := by decide +kernel
theorem dX5_isStrength_2 : decode cX5_isStrength 2 = .ok (.if_icmp .lt 13, 3) := by decide +kernel
theorem dX5_isStrength_5 : decode cX5_isStrength 5 = .ok (.iload_n 0, 1) := by decide +kernel
theorem dX5_isStrength_6 : decode cX5_isStrength 6 = .ok (.bipush 9, 2) := by decide +kernel
theorem dX5_isStrength_8 : decode cX5_isStrength 8 = .ok (.if_icmp .gt 7, 3) := by decide +kernel
theorem dX5_isStrength_11 : decode cX5_isStrength 11 = .ok (.iconst 1, 1) := by decide +kernel
theorem dX5_isStrength_12 : decode cX5_isStrength 12 = .ok (.goto 4, 3) := by decide +kernel
theorem dX5_isStrength_15 : decode cX5_isStrength 15 = .ok (.iconst 0, 1) := by decide +kernel
theorem dX5_isStrength_16 : decode cX5_isStrength 16 = .ok (.ireturn, 1) := by decide +kernel
theorem dX5_requireStrength_0 : decode cX5_requireStrength 0 = .ok (.iload_n 0, 1) := by decide +kernel
theorem dX5_requireStrength_1 : decode cX5_requireStrength 1 = .ok (.invokestatic 131, 3) := by decide +kernel
theorem dX5_requireStrength_4 : decode cX5_requireStrength 4 = .ok (.ifCond .ne 14, 3) := by decide +kernel
theorem dX5_requireStrength_7 : decode cX5_requireStrength 7 = .ok (.new 74, 3) := by decide +kernel
theorem dX5_requireStrength_10 : decode cX5_requireStrength 10 = .ok (.dup, 1) := by decide +kernel
theorem dX5_requireStrength_11 : decode cX5_requireStrength 11 = .ok (.ldc_w 300, 3) := by decide +kernel
theorem dX5_requireStrength_14 : decode cX5_requireStrength 14 = .ok (.invokespecial 78, 3) := by decide +kernel
theorem dX5_requireStrength_17 : decode cX5_requireStrength 17 = .ok (.athrow, 1) := by decide +kernel
theorem dX5_requireStrength_18 : decode cX5_requireStrength 18 = .ok (.return_, 1) := by decide +kernel
theorem dX5_propNumbered_0 : decode cX5_propNumbered 0 = .ok (.iload_n 1, 1) := by decide +kernel
theorem dX5_propNumbered_1 : decode cX5_propNumbered 1 = .ok (.ifCond .lt 14, 3) := by decide +kernel
theorem dX5_propNumbered_4 : decode cX5_propNumbered 4 = .ok (.iload_n 1, 1) := by decide +kernel
theorem dX5_propNumbered_5 : decode cX5_propNumbered 5 = .ok (.aload_n 0, 1) := by decide +kernel
theorem dX5_propNumbered_6 : decode cX5_propNumbered 6 = .ok (.getfield 10, 3) := by decide +kernel
theorem dX5_propNumbered_9 : decode cX5_propNumbered 9 = .ok (.getfield 250, 3) := by decide +kernel
theorem dX5_propNumbered_12 : decode cX5_propNumbered 12 = .ok (.if_icmp .lt 13, 3) := by decide +kernel
theorem dX5_propNumbered_15 : decode cX5_propNumbered 15 = .ok (.new 67, 3) := by decide +kernel
theorem dX5_propNumbered_18 : decode cX5_propNumbered 18 = .ok (.dup, 1) := by decide +kernel
theorem dX5_propNumbered_19 : decode cX5_propNumbered 19 = .ok (.ldc 69, 2) := by decide +kernel
theorem dX5_propNumbered_21 : decode cX5_propNumbered 21 = .ok (.invokespecial 71, 3) := by decide +kernel
theorem dX5_propNumbered_24 : decode cX5_propNumbered 24 = .ok (.athrow, 1) := by decide +kernel
theorem dX5_propNumbered_25 : decode cX5_propNumbered 25 = .ok (.aload_n 0, 1) := by decide +kernel
theorem dX5_propNumbered_26 : decode cX5_propNumbered 26 = .ok (.getfield 10, 3) := by decide +kernel
theorem dX5_propNumbered_29 : decode cX5_propNumbered 29 = .ok (.iload_n 1, 1) := by decide +kernel
theorem dX5_propNumbered_30 : decode cX5_propNumbered 30 = .ok (.invokevirtual 178, 3) := by decide +kernel
theorem dX5_propNumbered_33 : decode cX5_propNumbered 33 = .ok (.areturn, 1) := by decide +kernel
theorem dX5_numberInOrder_0 : decode cX5_numberInOrder 0 = .ok (.aload_n 0, 1) := by decide +kernel
theorem dX5_numberInOrder_1 : decode cX5_numberInOrder 1 = .ok (.getfield 10, 3) := by decide +kernel
theorem dX5_numberInOrder_4 : decode cX5_numberInOrder 4 = .ok (.iload_n 1, 1) := by decide +kernel
theorem dX5_numberInOrder_5 : decode cX5_numberInOrder 5 = .ok (.iload_n 2, 1) := by decide +kernel
theorem dX5_numberInOrder_6 : decode cX5_numberInOrder 6 = .ok (.invokevirtual 302, 3) := by decide +kernel
theorem dX5_numberInOrder_9 : decode cX5_numberInOrder 9 = .ok (.istore_n 3, 1) := by decide +kernel
theorem dX5_numberInOrder_10 : decode cX5_numberInOrder 10 = .ok (.iload_n 3, 1) := by decide +kernel
theorem dX5_numberInOrder_11 : decode cX5_numberInOrder 11 = .ok (.ifCond .ge 14, 3) := by decide +kernel
theorem dX5_numberInOrder_14 : decode cX5_numberInOrder 14 = .ok (.new 122, 3) := by decide +kernel
theorem dX5_numberInOrder_17 : decode cX5_numberInOrder 17 = .ok (.dup, 1) := by decide +kernel
theorem dX5_numberInOrder_18 : decode cX5_numberInOrder 18 = .ok (.ldc_w 303, 3) := by decide +kernel
theorem dX5_numberInOrder_21 : decode cX5_numberInOrder 21 = .ok (.invokespecial 126, 3) := by decide +kernel
theorem dX5_numberInOrder_24 : decode cX5_numberInOrder 24 = .ok (.athrow, 1) := by decide +kernel
theorem dX5_numberInOrder_25 : decode cX5_numberInOrder 25 = .ok (.iload_n 3, 1) := by decide +kernel
theorem dX5_numberInOrder_26 : decode cX5_numberInOrder 26 = .ok (.ireturn, 1) := by decide +kernel
theorem dX5_placed_0 : decode cX5_placed 0 = .ok (.aload_n 0, 1) := by decide +kernel
theorem dX5_placed_1 : decode cX5_placed 1 = .ok (.iload_n 1, 1) := by decide +kernel
theorem dX5_placed_2 : decode cX5_placed 2 = .ok (.iload_n 2, 1) := by decide +kernel
theorem dX5_placed_3 : decode cX5_placed 3 = .ok (.iload_n 3, 1) := by decide +kernel
theorem dX5_placed_4 : decode cX5_placed 4 = .ok (.invokevirtual 64, 3) := by decide +kernel
theorem dX5_placed_7 : decode cX5_placed 7 = .ok (.istore 4, 2) := by decide +kernel
theorem dX5_placed_9 : decode cX5_placed 9 = .ok (.iload 4, 2) := by decide +kernel
theorem dX5_placed_11 : decode cX5_placed 11 = .ok (.iconst 2, 1) := by decide +kernel
theorem dX5_placed_12 : decode cX5_placed 12 = .ok (.if_icmp .ne 14, 3) := by decide +kernel
theorem dX5_placed_15 : decode cX5_placed 15 = .ok (.new 74, 3) := by decide +kernel
theorem dX5_placed_18 : decode cX5_placed 18 = .ok (.dup, 1) := by decide +kernel
theorem dX5_placed_19 : decode cX5_placed 19 = .ok (.ldc_w 305, 3) := by decide +kernel
theorem dX5_placed_22 : decode cX5_placed 22 = .ok (.invokespecial 78, 3) := by decide +kernel
theorem dX5_placed_25 : decode cX5_placed 25 = .ok (.athrow, 1) := by decide +kernel
theorem dX5_placed_26 : decode cX5_placed 26 = .ok (.iload 4, 2) := by decide +kernel
theorem dX5_placed_28 : decode cX5_placed 28 = .ok (.iconst 3, 1) := by decide +kernel
theorem dX5_placed_29 : decode cX5_placed 29 = .ok (.if_icmp .ne 14, 3) := by decide +kernel
theorem dX5_placed_32 : decode cX5_placed 32 = .ok (.new 79, 3) := by decide +kernel
theorem dX5_placed_35 : decode cX5_placed 35 = .ok (.dup, 1) := by decide +kernel
theorem dX5_placed_36 : decode cX5_placed 36 = .ok (.ldc_w 307, 3) := by decide +kernel
theorem dX5_placed_39 : decode cX5_placed 39 = .ok (.invokespecial 83, 3) := by decide +kernel
theorem dX5_placed_42 : decode cX5_placed 42 = .ok (.athrow, 1) := by decide +kernel
theorem dX5_placed_43 : decode cX5_placed 43 = .ok (.aload_n 0, 1) := by decide +kernel
theorem dX5_placed_44 : decode cX5_placed 44 = .ok (.getfield 57, 3) := by decide +kernel
theorem dX5_placed_47 : decode cX5_placed 47 = .ok (.ireturn, 1) := by decide +kernel
theorem dX5_strengthTold_0 : decode cX5_strengthTold 0 = .ok (.aload_n 0, 1) := by decide +kernel
theorem dX5_strengthTold_1 : decode cX5_strengthTold 1 = .ok (.iload_n 1, 1) := by decide +kernel
theorem dX5_strengthTold_2 : decode cX5_strengthTold 2 = .ok (.iload_n 2, 1) := by decide +kernel
theorem dX5_strengthTold_3 : decode cX5_strengthTold 3 = .ok (.iconst 0, 1) := by decide +kernel
theorem dX5_strengthTold_4 : decode cX5_strengthTold 4 = .ok (.invokevirtual 64, 3) := by decide +kernel
theorem dX5_strengthTold_7 : decode cX5_strengthTold 7 = .ok (.istore_n 3, 1) := by decide +kernel
theorem dX5_strengthTold_8 : decode cX5_strengthTold 8 = .ok (.iload_n 3, 1) := by decide +kernel
theorem dX5_strengthTold_9 : decode cX5_strengthTold 9 = .ok (.iconst 2, 1) := by decide +kernel
theorem dX5_strengthTold_10 : decode cX5_strengthTold 10 = .ok (.if_icmp .ne 14, 3) := by decide +kernel
theorem dX5_strengthTold_13 : decode cX5_strengthTold 13 = .ok (.new 74, 3) := by decide +kernel
theorem dX5_strengthTold_16 : decode cX5_strengthTold 16 = .ok (.dup, 1) := by decide +kernel
theorem dX5_strengthTold_17 : decode cX5_strengthTold 17 = .ok (.ldc_w 300, 3) := by decide +kernel
theorem dX5_strengthTold_20 : decode cX5_strengthTold 20 = .ok (.invokespecial 78, 3) := by decide +kernel
theorem dX5_strengthTold_23 : decode cX5_strengthTold 23 = .ok (.athrow, 1) := by decide +kernel
theorem dX5_strengthTold_24 : decode cX5_strengthTold 24 = .ok (.iload_n 3, 1) := by decide +kernel
theorem dX5_strengthTold_25 : decode cX5_strengthTold 25 = .ok (.iconst 3, 1) := by decide +kernel
theorem dX5_strengthTold_26 : decode cX5_strengthTold 26 = .ok (.if_icmp .ne 14, 3) := by decide +kernel
theorem dX5_strengthTold_29 : decode cX5_strengthTold 29 = .ok (.new 79, 3) := by decide +kernel
theorem dX5_strengthTold_32 : decode cX5_strengthTold 32 = .ok (.dup, 1) := by decide +kernel
theorem dX5_strengthTold_33 : decode cX5_strengthTold 33 = .ok (.ldc_w 309, 3) := by decide +kernel
theorem dX5_strengthTold_36 : decode cX5_strengthTold 36 = .ok (.invokespecial 83, 3) := by decide +kernel
theorem dX5_strengthTold_39 : decode cX5_strengthTold 39 = .ok (.athrow, 1) := by decide +kernel
theorem dX5_strengthTold_40 : decode cX5_strengthTold 40 = .ok (.aload_n 0, 1) := by decide +kernel
theorem dX5_strengthTold_41 : decode cX5_strengthTold 41 = .ok (.getfield 57, 3) := by decide +kernel
theorem dX5_strengthTold_44 : decode cX5_strengthTold 44 = .ok (.ireturn, 1) := by decide +kernel
theorem dX5_change_0 : decode cX5_change 0 = .ok (.aload_n 0, 1) := by decide +kernel
theorem dX5_change_1 : decode cX5_change 1 = .ok (.getfield 25, 3) := by decide +kernel
theorem dX5_change_4 : decode cX5_change 4 = .ok (.aload_n 0, 1) := by decide +kernel
theorem dX5_change_5 : decode cX5_change 5 = .ok (.getfield 10, 3) := by decide +kernel
theorem dX5_change_8 : decode cX5_change 8 = .ok (.invokevirtual 220, 3) := by decide +kernel
theorem dX5_change_11 : decode cX5_change 11 = .ok (.aload_n 0, 1) := by decide +kernel
theorem dX5_change_12 : decode cX5_change 12 = .ok (.iload_n 1, 1) := by decide +kernel
theorem dX5_change_13 : decode cX5_change 13 = .ok (.iload_n 2, 1) := by decide +kernel
theorem dX5_change_14 : decode cX5_change 14 = .ok (.iload_n 3, 1) := by decide +kernel
theorem dX5_change_15 : decode cX5_change 15 = .ok (.invokevirtual 235, 3) := by decide +kernel
theorem dX5_change_18 : decode cX5_change 18 = .ok (.istore 4, 2) := by decide +kernel
theorem dX5_change_20 : decode cX5_change 20 = .ok (.iload 4, 2) := by decide +kernel
theorem dX5_change_22 : decode cX5_change 22 = .ok (.ifCond .ne 10, 3) := by decide +kernel
theorem dX5_change_25 : decode cX5_change 25 = .ok (.aload_n 0, 1) := by decide +kernel
theorem dX5_change_26 : decode cX5_change 26 = .ok (.getfield 25, 3) := by decide +kernel
theorem dX5_change_29 : decode cX5_change 29 = .ok (.invokevirtual 238, 3) := by decide +kernel
theorem dX5_change_32 : decode cX5_change 32 = .ok (.iload 4, 2) := by decide +kernel
theorem dX5_change_34 : decode cX5_change 34 = .ok (.ireturn, 1) := by decide +kernel
theorem dX5_tryOrder_0 : decode cX5_tryOrder 0 = .ok (.iload_n 1, 1) := by decide +kernel
theorem dX5_tryOrder_1 : decode cX5_tryOrder 1 = .ok (.tableswitch 156 1 10 #[55, 55, 55, 63, 69, 76, 82, 101, 107, 144], 55) := by decide +kernel
theorem dX5_tryOrder_56 : decode cX5_tryOrder 56 = .ok (.aload_n 0, 1) := by decide +kernel
theorem dX5_tryOrder_57 : decode cX5_tryOrder 57 = .ok (.iload_n 1, 1) := by decide +kernel
theorem dX5_tryOrder_58 : decode cX5_tryOrder 58 = .ok (.iload_n 2, 1) := by decide +kernel
theorem dX5_tryOrder_59 : decode cX5_tryOrder 59 = .ok (.iload_n 3, 1) := by decide +kernel
theorem dX5_tryOrder_60 : decode cX5_tryOrder 60 = .ok (.invokevirtual 311, 3) := by decide +kernel
theorem dX5_tryOrder_63 : decode cX5_tryOrder 63 = .ok (.ireturn, 1) := by decide +kernel
theorem dX5_tryOrder_64 : decode cX5_tryOrder 64 = .ok (.aload_n 0, 1) := by decide +kernel
theorem dX5_tryOrder_65 : decode cX5_tryOrder 65 = .ok (.iload_n 2, 1) := by decide +kernel
theorem dX5_tryOrder_66 : decode cX5_tryOrder 66 = .ok (.invokevirtual 314, 3) := by decide +kernel
theorem dX5_tryOrder_69 : decode cX5_tryOrder 69 = .ok (.ireturn, 1) := by decide +kernel
theorem dX5_tryOrder_70 : decode cX5_tryOrder 70 = .ok (.aload_n 0, 1) := by decide +kernel
theorem dX5_tryOrder_71 : decode cX5_tryOrder 71 = .ok (.iload_n 2, 1) := by decide +kernel
theorem dX5_tryOrder_72 : decode cX5_tryOrder 72 = .ok (.iload_n 3, 1) := by decide +kernel
theorem dX5_tryOrder_73 : decode cX5_tryOrder 73 = .ok (.invokevirtual 317, 3) := by decide +kernel
theorem dX5_tryOrder_76 : decode cX5_tryOrder 76 = .ok (.ireturn, 1) := by decide +kernel
theorem dX5_tryOrder_77 : decode cX5_tryOrder 77 = .ok (.aload_n 0, 1) := by decide +kernel
theorem dX5_tryOrder_78 : decode cX5_tryOrder 78 = .ok (.iload_n 2, 1) := by decide +kernel
theorem dX5_tryOrder_79 : decode cX5_tryOrder 79 = .ok (.invokevirtual 320, 3) := by decide +kernel
theorem dX5_tryOrder_82 : decode cX5_tryOrder 82 = .ok (.ireturn, 1) := by decide +kernel
theorem dX5_tryOrder_83 : decode cX5_tryOrder 83 = .ok (.aload_n 0, 1) := by decide +kernel
theorem dX5_tryOrder_84 : decode cX5_tryOrder 84 = .ok (.aload_n 0, 1) := by decide +kernel
theorem dX5_tryOrder_85 : decode cX5_tryOrder 85 = .ok (.getfield 10, 3) := by decide +kernel
theorem dX5_tryOrder_88 : decode cX5_tryOrder 88 = .ok (.aload_n 0, 1) := by decide +kernel
theorem dX5_tryOrder_89 : decode cX5_tryOrder 89 = .ok (.getfield 10, 3) := by decide +kernel
theorem dX5_tryOrder_92 : decode cX5_tryOrder 92 = .ok (.getfield 172, 3) := by decide +kernel
theorem dX5_tryOrder_95 : decode cX5_tryOrder 95 = .ok (.invokevirtual 175, 3) := by decide +kernel
theorem dX5_tryOrder_98 : decode cX5_tryOrder 98 = .ok (.invokevirtual 323, 3) := by decide +kernel
theorem dX5_tryOrder_101 : decode cX5_tryOrder 101 = .ok (.ireturn, 1) := by decide +kernel
theorem dX5_tryOrder_102 : decode cX5_tryOrder 102 = .ok (.aload_n 0, 1) := by decide +kernel
theorem dX5_tryOrder_103 : decode cX5_tryOrder 103 = .ok (.iload_n 2, 1) := by decide +kernel
theorem dX5_tryOrder_104 : decode cX5_tryOrder 104 = .ok (.invokevirtual 326, 3) := by decide +kernel
theorem dX5_tryOrder_107 : decode cX5_tryOrder 107 = .ok (.ireturn, 1) := by decide +kernel
theorem dX5_tryOrder_108 : decode cX5_tryOrder 108 = .ok (.aload_n 0, 1) := by decide +kernel
theorem dX5_tryOrder_109 : decode cX5_tryOrder 109 = .ok (.getfield 10, 3) := by decide +kernel
theorem dX5_tryOrder_112 : decode cX5_tryOrder 112 = .ok (.getfield 119, 3) := by decide +kernel
theorem dX5_tryOrder_115 : decode cX5_tryOrder 115 = .ok (.ifCond .ne 18, 3) := by decide +kernel
theorem dX5_tryOrder_118 : decode cX5_tryOrder 118 = .ok (.aload_n 0, 1) := by decide +kernel
theorem dX5_tryOrder_119 : decode cX5_tryOrder 119 = .ok (.iconst 5, 1) := by decide +kernel
theorem dX5_tryOrder_120 : decode cX5_tryOrder 120 = .ok (.aload_n 0, 1) := by decide +kernel
theorem dX5_tryOrder_121 : decode cX5_tryOrder 121 = .ok (.getfield 10, 3) := by decide +kernel
theorem dX5_tryOrder_124 : decode cX5_tryOrder 124 = .ok (.getfield 259, 3) := by decide +kernel
theorem dX5_tryOrder_127 : decode cX5_tryOrder 127 = .ok (.invokevirtual 329, 3) := by decide +kernel
theorem dX5_tryOrder_130 : decode cX5_tryOrder 130 = .ok (.goto 14, 3) := by decide +kernel
theorem dX5_tryOrder_133 : decode cX5_tryOrder 133 = .ok (.aload_n 0, 1) := by decide +kernel
theorem dX5_tryOrder_134 : decode cX5_tryOrder 134 = .ok (.aload_n 0, 1) := by decide +kernel
theorem dX5_tryOrder_135 : decode cX5_tryOrder 135 = .ok (.getfield 10, 3) := by decide +kernel
theorem dX5_tryOrder_138 : decode cX5_tryOrder 138 = .ok (.invokevirtual 163, 3) := by decide +kernel
theorem dX5_tryOrder_141 : decode cX5_tryOrder 141 = .ok (.invokevirtual 323, 3) := by decide +kernel
theorem dX5_tryOrder_144 : decode cX5_tryOrder 144 = .ok (.ireturn, 1) := by decide +kernel
theorem dX5_tryOrder_145 : decode cX5_tryOrder 145 = .ok (.aload_n 0, 1) := by decide +kernel
theorem dX5_tryOrder_146 : decode cX5_tryOrder 146 = .ok (.aload_n 0, 1) := by decide +kernel
theorem dX5_tryOrder_147 : decode cX5_tryOrder 147 = .ok (.getfield 10, 3) := by decide +kernel
theorem dX5_tryOrder_150 : decode cX5_tryOrder 150 = .ok (.invokevirtual 332, 3) := by decide +kernel
theorem dX5_tryOrder_153 : decode cX5_tryOrder 153 = .ok (.invokevirtual 323, 3) := by decide +kernel
theorem dX5_tryOrder_156 : decode cX5_tryOrder 156 = .ok (.ireturn, 1) := by decide +kernel
theorem dX5_tryOrder_157 : decode cX5_tryOrder 157 = .ok (.iconst 2, 1) := by decide +kernel
theorem dX5_tryOrder_158 : decode cX5_tryOrder 158 = .ok (.ireturn, 1) := by decide +kernel
theorem dX5_tryPlacing_0 : decode cX5_tryPlacing 0 = .ok (.iload_n 1, 1) := by decide +kernel
theorem dX5_tryPlacing_1 : decode cX5_tryPlacing 1 = .ok (.iconst 3, 1) := by decide +kernel
theorem dX5_tryPlacing_2 : decode cX5_tryPlacing 2 = .ok (.if_icmp .ne 7, 3) := by decide +kernel
theorem dX5_tryPlacing_5 : decode cX5_tryPlacing 5 = .ok (.iconst 0, 1) := by decide +kernel
theorem dX5_tryPlacing_6 : decode cX5_tryPlacing 6 = .ok (.goto 4, 3) := by decide +kernel
theorem dX5_tryPlacing_9 : decode cX5_tryPlacing 9 = .ok (.iconst 1, 1) := by decide +kernel
theorem dX5_tryPlacing_10 : decode cX5_tryPlacing 10 = .ok (.istore 4, 2) := by decide +kernel
theorem dX5_tryPlacing_12 : decode cX5_tryPlacing 12 = .ok (.iload_n 2, 1) := by decide +kernel
theorem dX5_tryPlacing_13 : decode cX5_tryPlacing 13 = .ok (.invokestatic 135, 3) := by decide +kernel
theorem dX5_tryPlacing_16 : decode cX5_tryPlacing 16 = .ok (.ifCond .eq 15, 3) := by decide +kernel
theorem dX5_tryPlacing_19 : decode cX5_tryPlacing 19 = .ok (.iload_n 3, 1) := by decide +kernel
theorem dX5_tryPlacing_20 : decode cX5_tryPlacing 20 = .ok (.iload 4, 2) := by decide +kernel
theorem dX5_tryPlacing_22 : decode cX5_tryPlacing 22 = .ok (.if_icmp .lt 9, 3) := by decide +kernel
theorem dX5_tryPlacing_25 : decode cX5_tryPlacing 25 = .ok (.iload_n 3, 1) := by decide +kernel
theorem dX5_tryPlacing_26 : decode cX5_tryPlacing 26 = .ok (.bipush 9, 2) := by decide +kernel
theorem dX5_tryPlacing_28 : decode cX5_tryPlacing 28 = .ok (.if_icmp .le 5, 3) := by decide +kernel
theorem dX5_tryPlacing_31 : decode cX5_tryPlacing 31 = .ok (.iconst 2, 1) := by decide +kernel
theorem dX5_tryPlacing_32 : decode cX5_tryPlacing 32 = .ok (.ireturn, 1) := by decide +kernel
theorem dX5_tryPlacing_33 : decode cX5_tryPlacing 33 = .ok (.aload_n 0, 1) := by decide +kernel
theorem dX5_tryPlacing_34 : decode cX5_tryPlacing 34 = .ok (.getfield 10, 3) := by decide +kernel
theorem dX5_tryPlacing_37 : decode cX5_tryPlacing 37 = .ok (.getfield 250, 3) := by decide +kernel
theorem dX5_tryPlacing_40 : decode cX5_tryPlacing 40 = .ok (.bipush 12, 2) := by decide +kernel
theorem dX5_tryPlacing_42 : decode cX5_tryPlacing 42 = .ok (.if_icmp .lt 16, 3) := by decide +kernel
theorem dX5_tryPlacing_45 : decode cX5_tryPlacing 45 = .ok (.aload_n 0, 1) := by decide +kernel
theorem dX5_tryPlacing_46 : decode cX5_tryPlacing 46 = .ok (.iconst 1, 1) := by decide +kernel
theorem dX5_tryPlacing_47 : decode cX5_tryPlacing 47 = .ok (.aload_n 0, 1) := by decide +kernel
theorem dX5_tryPlacing_48 : decode cX5_tryPlacing 48 = .ok (.getfield 10, 3) := by decide +kernel
theorem dX5_tryPlacing_51 : decode cX5_tryPlacing 51 = .ok (.getfield 250, 3) := by decide +kernel
theorem dX5_tryPlacing_54 : decode cX5_tryPlacing 54 = .ok (.invokevirtual 329, 3) := by decide +kernel
theorem dX5_tryPlacing_57 : decode cX5_tryPlacing 57 = .ok (.ireturn, 1) := by decide +kernel
theorem dX5_tryPlacing_58 : decode cX5_tryPlacing 58 = .ok (.aload_n 0, 1) := by decide +kernel
theorem dX5_tryPlacing_59 : decode cX5_tryPlacing 59 = .ok (.getfield 10, 3) := by decide +kernel
theorem dX5_tryPlacing_62 : decode cX5_tryPlacing 62 = .ok (.iload_n 1, 1) := by decide +kernel
theorem dX5_tryPlacing_63 : decode cX5_tryPlacing 63 = .ok (.iload_n 2, 1) := by decide +kernel
theorem dX5_tryPlacing_64 : decode cX5_tryPlacing 64 = .ok (.invokevirtual 186, 3) := by decide +kernel
theorem dX5_tryPlacing_67 : decode cX5_tryPlacing 67 = .ok (.iconst 5, 1) := by decide +kernel
theorem dX5_tryPlacing_68 : decode cX5_tryPlacing 68 = .ok (.if_icmp .lt 10, 3) := by decide +kernel
theorem dX5_tryPlacing_71 : decode cX5_tryPlacing 71 = .ok (.aload_n 0, 1) := by decide +kernel
theorem dX5_tryPlacing_72 : decode cX5_tryPlacing 72 = .ok (.iconst 2, 1) := by decide +kernel
theorem dX5_tryPlacing_73 : decode cX5_tryPlacing 73 = .ok (.iload_n 2, 1) := by decide +kernel
theorem dX5_tryPlacing_74 : decode cX5_tryPlacing 74 = .ok (.invokevirtual 329, 3) := by decide +kernel
theorem dX5_tryPlacing_77 : decode cX5_tryPlacing 77 = .ok (.ireturn, 1) := by decide +kernel
theorem dX5_tryPlacing_78 : decode cX5_tryPlacing 78 = .ok (.aload_n 0, 1) := by decide +kernel
theorem dX5_tryPlacing_79 : decode cX5_tryPlacing 79 = .ok (.aload_n 0, 1) := by decide +kernel
theorem dX5_tryPlacing_80 : decode cX5_tryPlacing 80 = .ok (.getfield 10, 3) := by decide +kernel
theorem dX5_tryPlacing_83 : decode cX5_tryPlacing 83 = .ok (.iload_n 1, 1) := by decide +kernel
theorem dX5_tryPlacing_84 : decode cX5_tryPlacing 84 = .ok (.iload_n 2, 1) := by decide +kernel
theorem dX5_tryPlacing_85 : decode cX5_tryPlacing 85 = .ok (.iload_n 3, 1) := by decide +kernel
theorem dX5_tryPlacing_86 : decode cX5_tryPlacing 86 = .ok (.invokevirtual 335, 3) := by decide +kernel
theorem dX5_tryPlacing_89 : decode cX5_tryPlacing 89 = .ok (.invokevirtual 323, 3) := by decide +kernel
theorem dX5_tryPlacing_92 : decode cX5_tryPlacing 92 = .ok (.ireturn, 1) := by decide +kernel
theorem dX5_tryTaking_0 : decode cX5_tryTaking 0 = .ok (.iload_n 1, 1) := by decide +kernel
theorem dX5_tryTaking_1 : decode cX5_tryTaking 1 = .ok (.ifCond .lt 14, 3) := by decide +kernel
theorem dX5_tryTaking_4 : decode cX5_tryTaking 4 = .ok (.iload_n 1, 1) := by decide +kernel
theorem dX5_tryTaking_5 : decode cX5_tryTaking 5 = .ok (.aload_n 0, 1) := by decide +kernel
theorem dX5_tryTaking_6 : decode cX5_tryTaking 6 = .ok (.getfield 10, 3) := by decide +kernel
theorem dX5_tryTaking_9 : decode cX5_tryTaking 9 = .ok (.getfield 250, 3) := by decide +kernel
theorem dX5_tryTaking_12 : decode cX5_tryTaking 12 = .ok (.if_icmp .lt 5, 3) := by decide +kernel
theorem dX5_tryTaking_15 : decode cX5_tryTaking 15 = .ok (.iconst 1, 1) := by decide +kernel
theorem dX5_tryTaking_16 : decode cX5_tryTaking 16 = .ok (.ireturn, 1) := by decide +kernel
theorem dX5_tryTaking_17 : decode cX5_tryTaking 17 = .ok (.aload_n 0, 1) := by decide +kernel
theorem dX5_tryTaking_18 : decode cX5_tryTaking 18 = .ok (.aload_n 0, 1) := by decide +kernel
theorem dX5_tryTaking_19 : decode cX5_tryTaking 19 = .ok (.getfield 10, 3) := by decide +kernel
theorem dX5_tryTaking_22 : decode cX5_tryTaking 22 = .ok (.iload_n 1, 1) := by decide +kernel
theorem dX5_tryTaking_23 : decode cX5_tryTaking 23 = .ok (.invokevirtual 338, 3) := by decide +kernel
theorem dX5_tryTaking_26 : decode cX5_tryTaking 26 = .ok (.invokevirtual 323, 3) := by decide +kernel
theorem dX5_tryTaking_29 : decode cX5_tryTaking 29 = .ok (.ireturn, 1) := by decide +kernel
theorem dX5_tryCueing_0 : decode cX5_tryCueing 0 = .ok (.iload_n 1, 1) := by decide +kernel
theorem dX5_tryCueing_1 : decode cX5_tryCueing 1 = .ok (.ifCond .lt 14, 3) := by decide +kernel
theorem dX5_tryCueing_4 : decode cX5_tryCueing 4 = .ok (.iload_n 1, 1) := by decide +kernel
theorem dX5_tryCueing_5 : decode cX5_tryCueing 5 = .ok (.aload_n 0, 1) := by decide +kernel
theorem dX5_tryCueing_6 : decode cX5_tryCueing 6 = .ok (.getfield 10, 3) := by decide +kernel
theorem dX5_tryCueing_9 : decode cX5_tryCueing 9 = .ok (.getfield 250, 3) := by decide +kernel
theorem dX5_tryCueing_12 : decode cX5_tryCueing 12 = .ok (.if_icmp .lt 5, 3) := by decide +kernel
theorem dX5_tryCueing_15 : decode cX5_tryCueing 15 = .ok (.iconst 1, 1) := by decide +kernel
theorem dX5_tryCueing_16 : decode cX5_tryCueing 16 = .ok (.ireturn, 1) := by decide +kernel
theorem dX5_tryCueing_17 : decode cX5_tryCueing 17 = .ok (.iload_n 2, 1) := by decide +kernel
theorem dX5_tryCueing_18 : decode cX5_tryCueing 18 = .ok (.ifCond .eq 12, 3) := by decide +kernel
theorem dX5_tryCueing_21 : decode cX5_tryCueing 21 = .ok (.iload_n 2, 1) := by decide +kernel
theorem dX5_tryCueing_22 : decode cX5_tryCueing 22 = .ok (.invokestatic 131, 3) := by decide +kernel
theorem dX5_tryCueing_25 : decode cX5_tryCueing 25 = .ok (.ifCond .ne 5, 3) := by decide +kernel
theorem dX5_tryCueing_28 : decode cX5_tryCueing 28 = .ok (.iconst 2, 1) := by decide +kernel
theorem dX5_tryCueing_29 : decode cX5_tryCueing 29 = .ok (.ireturn, 1) := by decide +kernel
theorem dX5_tryCueing_30 : decode cX5_tryCueing 30 = .ok (.aload_n 0, 1) := by decide +kernel
theorem dX5_tryCueing_31 : decode cX5_tryCueing 31 = .ok (.getfield 10, 3) := by decide +kernel
theorem dX5_tryCueing_34 : decode cX5_tryCueing 34 = .ok (.iload_n 1, 1) := by decide +kernel
theorem dX5_tryCueing_35 : decode cX5_tryCueing 35 = .ok (.invokevirtual 178, 3) := by decide +kernel
theorem dX5_tryCueing_38 : decode cX5_tryCueing 38 = .ok (.astore_n 3, 1) := by decide +kernel
theorem dX5_tryCueing_39 : decode cX5_tryCueing 39 = .ok (.aload_n 3, 1) := by decide +kernel
theorem dX5_tryCueing_40 : decode cX5_tryCueing 40 = .ok (.getfield 94, 3) := by decide +kernel
theorem dX5_tryCueing_43 : decode cX5_tryCueing 43 = .ok (.iconst 2, 1) := by decide +kernel
theorem dX5_tryCueing_44 : decode cX5_tryCueing 44 = .ok (.if_icmp .eq 13, 3) := by decide +kernel
theorem dX5_tryCueing_47 : decode cX5_tryCueing 47 = .ok (.aload_n 0, 1) := by decide +kernel
theorem dX5_tryCueing_48 : decode cX5_tryCueing 48 = .ok (.iconst 4, 1) := by decide +kernel
theorem dX5_tryCueing_49 : decode cX5_tryCueing 49 = .ok (.aload_n 3, 1) := by decide +kernel
theorem dX5_tryCueing_50 : decode cX5_tryCueing 50 = .ok (.getfield 99, 3) := by decide +kernel
theorem dX5_tryCueing_53 : decode cX5_tryCueing 53 = .ok (.invokevirtual 329, 3) := by decide +kernel
theorem dX5_tryCueing_56 : decode cX5_tryCueing 56 = .ok (.ireturn, 1) := by decide +kernel
theorem dX5_tryCueing_57 : decode cX5_tryCueing 57 = .ok (.aload_n 3, 1) := by decide +kernel
theorem dX5_tryCueing_58 : decode cX5_tryCueing 58 = .ok (.getfield 108, 3) := by decide +kernel
theorem dX5_tryCueing_61 : decode cX5_tryCueing 61 = .ok (.ifCond .eq 14, 3) := by decide +kernel
theorem dX5_tryCueing_64 : decode cX5_tryCueing 64 = .ok (.aload_n 0, 1) := by decide +kernel
theorem dX5_tryCueing_65 : decode cX5_tryCueing 65 = .ok (.bipush 6, 2) := by decide +kernel
theorem dX5_tryCueing_67 : decode cX5_tryCueing 67 = .ok (.aload_n 3, 1) := by decide +kernel
theorem dX5_tryCueing_68 : decode cX5_tryCueing 68 = .ok (.getfield 105, 3) := by decide +kernel
theorem dX5_tryCueing_71 : decode cX5_tryCueing 71 = .ok (.invokevirtual 329, 3) := by decide +kernel
theorem dX5_tryCueing_74 : decode cX5_tryCueing 74 = .ok (.ireturn, 1) := by decide +kernel
theorem dX5_tryCueing_75 : decode cX5_tryCueing 75 = .ok (.aload_n 3, 1) := by decide +kernel
theorem dX5_tryCueing_76 : decode cX5_tryCueing 76 = .ok (.getfield 111, 3) := by decide +kernel
theorem dX5_tryCueing_79 : decode cX5_tryCueing 79 = .ok (.iload_n 2, 1) := by decide +kernel
theorem dX5_tryCueing_80 : decode cX5_tryCueing 80 = .ok (.if_icmp .ne 10, 3) := by decide +kernel
theorem dX5_tryCueing_83 : decode cX5_tryCueing 83 = .ok (.aload_n 0, 1) := by decide +kernel
theorem dX5_tryCueing_84 : decode cX5_tryCueing 84 = .ok (.iconst 3, 1) := by decide +kernel
theorem dX5_tryCueing_85 : decode cX5_tryCueing 85 = .ok (.iload_n 2, 1) := by decide +kernel
theorem dX5_tryCueing_86 : decode cX5_tryCueing 86 = .ok (.invokevirtual 329, 3) := by decide +kernel
theorem dX5_tryCueing_89 : decode cX5_tryCueing 89 = .ok (.ireturn, 1) := by decide +kernel
theorem dX5_tryCueing_90 : decode cX5_tryCueing 90 = .ok (.aload_n 3, 1) := by decide +kernel
theorem dX5_tryCueing_91 : decode cX5_tryCueing 91 = .ok (.getfield 111, 3) := by decide +kernel
theorem dX5_tryCueing_94 : decode cX5_tryCueing 94 = .ok (.istore 4, 2) := by decide +kernel
theorem dX5_tryCueing_96 : decode cX5_tryCueing 96 = .ok (.aload_n 3, 1) := by decide +kernel
theorem dX5_tryCueing_97 : decode cX5_tryCueing 97 = .ok (.iload_n 2, 1) := by decide +kernel
theorem dX5_tryCueing_98 : decode cX5_tryCueing 98 = .ok (.putfield 111, 3) := by decide +kernel
theorem dX5_tryCueing_101 : decode cX5_tryCueing 101 = .ok (.aload_n 0, 1) := by decide +kernel
theorem dX5_tryCueing_102 : decode cX5_tryCueing 102 = .ok (.iload 4, 2) := by decide +kernel
theorem dX5_tryCueing_104 : decode cX5_tryCueing 104 = .ok (.invokevirtual 323, 3) := by decide +kernel
theorem dX5_tryCueing_107 : decode cX5_tryCueing 107 = .ok (.ireturn, 1) := by decide +kernel
theorem dX5_trySetting_0 : decode cX5_trySetting 0 = .ok (.iload_n 1, 1) := by decide +kernel
theorem dX5_trySetting_1 : decode cX5_trySetting 1 = .ok (.invokestatic 131, 3) := by decide +kernel
theorem dX5_trySetting_4 : decode cX5_trySetting 4 = .ok (.ifCond .ne 5, 3) := by decide +kernel
theorem dX5_trySetting_7 : decode cX5_trySetting 7 = .ok (.iconst 2, 1) := by decide +kernel
theorem dX5_trySetting_8 : decode cX5_trySetting 8 = .ok (.ireturn, 1) := by decide +kernel
theorem dX5_trySetting_9 : decode cX5_trySetting 9 = .ok (.aload_n 0, 1) := by decide +kernel
theorem dX5_trySetting_10 : decode cX5_trySetting 10 = .ok (.getfield 10, 3) := by decide +kernel
theorem dX5_trySetting_13 : decode cX5_trySetting 13 = .ok (.getfield 172, 3) := by decide +kernel
theorem dX5_trySetting_16 : decode cX5_trySetting 16 = .ok (.iload_n 1, 1) := by decide +kernel
theorem dX5_trySetting_17 : decode cX5_trySetting 17 = .ok (.if_icmp .ne 10, 3) := by decide +kernel
theorem dX5_trySetting_20 : decode cX5_trySetting 20 = .ok (.aload_n 0, 1) := by decide +kernel
theorem dX5_trySetting_21 : decode cX5_trySetting 21 = .ok (.iconst 3, 1) := by decide +kernel
theorem dX5_trySetting_22 : decode cX5_trySetting 22 = .ok (.iload_n 1, 1) := by decide +kernel
theorem dX5_trySetting_23 : decode cX5_trySetting 23 = .ok (.invokevirtual 329, 3) := by decide +kernel
theorem dX5_trySetting_26 : decode cX5_trySetting 26 = .ok (.ireturn, 1) := by decide +kernel
theorem dX5_trySetting_27 : decode cX5_trySetting 27 = .ok (.aload_n 0, 1) := by decide +kernel
theorem dX5_trySetting_28 : decode cX5_trySetting 28 = .ok (.getfield 10, 3) := by decide +kernel
theorem dX5_trySetting_31 : decode cX5_trySetting 31 = .ok (.getfield 172, 3) := by decide +kernel
theorem dX5_trySetting_34 : decode cX5_trySetting 34 = .ok (.istore_n 2, 1) := by decide +kernel
theorem dX5_trySetting_35 : decode cX5_trySetting 35 = .ok (.aload_n 0, 1) := by decide +kernel
theorem dX5_trySetting_36 : decode cX5_trySetting 36 = .ok (.getfield 10, 3) := by decide +kernel
theorem dX5_trySetting_39 : decode cX5_trySetting 39 = .ok (.iload_n 1, 1) := by decide +kernel
theorem dX5_trySetting_40 : decode cX5_trySetting 40 = .ok (.putfield 172, 3) := by decide +kernel
theorem dX5_trySetting_43 : decode cX5_trySetting 43 = .ok (.aload_n 0, 1) := by decide +kernel
theorem dX5_trySetting_44 : decode cX5_trySetting 44 = .ok (.iload_n 2, 1) := by decide +kernel
theorem dX5_trySetting_45 : decode cX5_trySetting 45 = .ok (.invokevirtual 323, 3) := by decide +kernel
theorem dX5_trySetting_48 : decode cX5_trySetting 48 = .ok (.ireturn, 1) := by decide +kernel
theorem dX5_tryAdding_0 : decode cX5_tryAdding 0 = .ok (.iload_n 1, 1) := by decide +kernel
theorem dX5_tryAdding_1 : decode cX5_tryAdding 1 = .ok (.invokestatic 131, 3) := by decide +kernel
theorem dX5_tryAdding_4 : decode cX5_tryAdding 4 = .ok (.ifCond .ne 5, 3) := by decide +kernel
theorem dX5_tryAdding_7 : decode cX5_tryAdding 7 = .ok (.iconst 2, 1) := by decide +kernel
theorem dX5_tryAdding_8 : decode cX5_tryAdding 8 = .ok (.ireturn, 1) := by decide +kernel
theorem dX5_tryAdding_9 : decode cX5_tryAdding 9 = .ok (.aload_n 0, 1) := by decide +kernel
theorem dX5_tryAdding_10 : decode cX5_tryAdding 10 = .ok (.getfield 10, 3) := by decide +kernel
theorem dX5_tryAdding_13 : decode cX5_tryAdding 13 = .ok (.getfield 119, 3) := by decide +kernel
theorem dX5_tryAdding_16 : decode cX5_tryAdding 16 = .ok (.bipush 8, 2) := by decide +kernel
theorem dX5_tryAdding_18 : decode cX5_tryAdding 18 = .ok (.if_icmp .lt 16, 3) := by decide +kernel
theorem dX5_tryAdding_21 : decode cX5_tryAdding 21 = .ok (.aload_n 0, 1) := by decide +kernel
theorem dX5_tryAdding_22 : decode cX5_tryAdding 22 = .ok (.iconst 1, 1) := by decide +kernel
theorem dX5_tryAdding_23 : decode cX5_tryAdding 23 = .ok (.aload_n 0, 1) := by decide +kernel
theorem dX5_tryAdding_24 : decode cX5_tryAdding 24 = .ok (.getfield 10, 3) := by decide +kernel
theorem dX5_tryAdding_27 : decode cX5_tryAdding 27 = .ok (.getfield 119, 3) := by decide +kernel
theorem dX5_tryAdding_30 : decode cX5_tryAdding 30 = .ok (.invokevirtual 329, 3) := by decide +kernel
theorem dX5_tryAdding_33 : decode cX5_tryAdding 33 = .ok (.ireturn, 1) := by decide +kernel
theorem dX5_tryAdding_34 : decode cX5_tryAdding 34 = .ok (.aload_n 0, 1) := by decide +kernel
theorem dX5_tryAdding_35 : decode cX5_tryAdding 35 = .ok (.aload_n 0, 1) := by decide +kernel
theorem dX5_tryAdding_36 : decode cX5_tryAdding 36 = .ok (.getfield 10, 3) := by decide +kernel
theorem dX5_tryAdding_39 : decode cX5_tryAdding 39 = .ok (.iload_n 1, 1) := by decide +kernel
theorem dX5_tryAdding_40 : decode cX5_tryAdding 40 = .ok (.invokevirtual 341, 3) := by decide +kernel
theorem dX5_tryAdding_43 : decode cX5_tryAdding 43 = .ok (.invokevirtual 323, 3) := by decide +kernel
theorem dX5_tryAdding_46 : decode cX5_tryAdding 46 = .ok (.ireturn, 1) := by decide +kernel
theorem dX5_answered_0 : decode cX5_answered 0 = .ok (.aload_n 0, 1) := by decide +kernel
theorem dX5_answered_1 : decode cX5_answered 1 = .ok (.iload_n 1, 1) := by decide +kernel
theorem dX5_answered_2 : decode cX5_answered 2 = .ok (.putfield 57, 3) := by decide +kernel
theorem dX5_answered_5 : decode cX5_answered 5 = .ok (.iconst 0, 1) := by decide +kernel
theorem dX5_answered_6 : decode cX5_answered 6 = .ok (.ireturn, 1) := by decide +kernel
theorem dX5_refuse_0 : decode cX5_refuse 0 = .ok (.aload_n 0, 1) := by decide +kernel
theorem dX5_refuse_1 : decode cX5_refuse 1 = .ok (.iload_n 1, 1) := by decide +kernel
theorem dX5_refuse_2 : decode cX5_refuse 2 = .ok (.putfield 51, 3) := by decide +kernel
theorem dX5_refuse_5 : decode cX5_refuse 5 = .ok (.aload_n 0, 1) := by decide +kernel
theorem dX5_refuse_6 : decode cX5_refuse 6 = .ok (.iload_n 2, 1) := by decide +kernel
theorem dX5_refuse_7 : decode cX5_refuse 7 = .ok (.putfield 54, 3) := by decide +kernel
theorem dX5_refuse_10 : decode cX5_refuse 10 = .ok (.iconst 3, 1) := by decide +kernel
theorem dX5_refuse_11 : decode cX5_refuse 11 = .ok (.ireturn, 1) := by decide +kernel
theorem dX5_marksInThought_0 : decode cX5_marksInThought 0 = .ok (.aload_n 0, 1) := by decide +kernel
theorem dX5_marksInThought_1 : decode cX5_marksInThought 1 = .ok (.getfield 16, 3) := by decide +kernel
theorem dX5_marksInThought_4 : decode cX5_marksInThought 4 = .ok (.aload_n 0, 1) := by decide +kernel
theorem dX5_marksInThought_5 : decode cX5_marksInThought 5 = .ok (.getfield 10, 3) := by decide +kernel
theorem dX5_marksInThought_8 : decode cX5_marksInThought 8 = .ok (.invokevirtual 159, 3) := by decide +kernel
theorem dX5_marksInThought_11 : decode cX5_marksInThought 11 = .ok (.aload_n 0, 1) := by decide +kernel
theorem dX5_marksInThought_12 : decode cX5_marksInThought 12 = .ok (.getfield 16, 3) := by decide +kernel
theorem dX5_marksInThought_15 : decode cX5_marksInThought 15 = .ok (.iload_n 1, 1) := by decide +kernel
theorem dX5_marksInThought_16 : decode cX5_marksInThought 16 = .ok (.invokevirtual 175, 3) := by decide +kernel
theorem dX5_marksInThought_19 : decode cX5_marksInThought 19 = .ok (.ireturn, 1) := by decide +kernel
theorem dX5_breakagesInThought_0 : decode cX5_breakagesInThought 0 = .ok (.aload_n 0, 1) := by decide +kernel
theorem dX5_breakagesInThought_1 : decode cX5_breakagesInThought 1 = .ok (.getfield 16, 3) := by decide +kernel
theorem dX5_breakagesInThought_4 : decode cX5_breakagesInThought 4 = .ok (.aload_n 0, 1) := by decide +kernel
theorem dX5_breakagesInThought_5 : decode cX5_breakagesInThought 5 = .ok (.getfield 10, 3) := by decide +kernel
theorem dX5_breakagesInThought_8 : decode cX5_breakagesInThought 8 = .ok (.invokevirtual 159, 3) := by decide +kernel
theorem dX5_breakagesInThought_11 : decode cX5_breakagesInThought 11 = .ok (.aload_n 0, 1) := by decide +kernel
theorem dX5_breakagesInThought_12 : decode cX5_breakagesInThought 12 = .ok (.getfield 16, 3) := by decide +kernel
theorem dX5_breakagesInThought_15 : decode cX5_breakagesInThought 15 = .ok (.iload_n 1, 1) := by decide +kernel
theorem dX5_breakagesInThought_16 : decode cX5_breakagesInThought 16 = .ok (.invokevirtual 175, 3) := by decide +kernel
theorem dX5_breakagesInThought_19 : decode cX5_breakagesInThought 19 = .ok (.pop, 1) := by decide +kernel
theorem dX5_breakagesInThought_20 : decode cX5_breakagesInThought 20 = .ok (.aload_n 0, 1) := by decide +kernel
theorem dX5_breakagesInThought_21 : decode cX5_breakagesInThought 21 = .ok (.getfield 16, 3) := by decide +kernel
theorem dX5_breakagesInThought_24 : decode cX5_breakagesInThought 24 = .ok (.getfield 167, 3) := by decide +kernel
theorem dX5_breakagesInThought_27 : decode cX5_breakagesInThought 27 = .ok (.aload_n 0, 1) := by decide +kernel
theorem dX5_breakagesInThought_28 : decode cX5_breakagesInThought 28 = .ok (.getfield 10, 3) := by decide +kernel
theorem dX5_breakagesInThought_31 : decode cX5_breakagesInThought 31 = .ok (.getfield 167, 3) := by decide +kernel
theorem dX5_breakagesInThought_34 : decode cX5_breakagesInThought 34 = .ok (.isub, 1) := by decide +kernel
theorem dX5_breakagesInThought_35 : decode cX5_breakagesInThought 35 = .ok (.ireturn, 1) := by decide +kernel
theorem dX5_isReachAlike_0 : decode cX5_isReachAlike 0 = .ok (.iconst 1, 1) := by decide +kernel
theorem dX5_isReachAlike_1 : decode cX5_isReachAlike 1 = .ok (.istore_n 1, 1) := by decide +kernel
theorem dX5_isReachAlike_2 : decode cX5_isReachAlike 2 = .ok (.iload_n 1, 1) := by decide +kernel
theorem dX5_isReachAlike_3 : decode cX5_isReachAlike 3 = .ok (.bipush 9, 2) := by decide +kernel
theorem dX5_isReachAlike_5 : decode cX5_isReachAlike 5 = .ok (.if_icmp .gt 45, 3) := by decide +kernel
theorem dX5_isReachAlike_8 : decode cX5_isReachAlike 8 = .ok (.iconst 0, 1) := by decide +kernel
theorem dX5_isReachAlike_9 : decode cX5_isReachAlike 9 = .ok (.istore_n 2, 1) := by decide +kernel
theorem dX5_isReachAlike_10 : decode cX5_isReachAlike 10 = .ok (.iload_n 2, 1) := by decide +kernel
theorem dX5_isReachAlike_11 : decode cX5_isReachAlike 11 = .ok (.iconst 5, 1) := by decide +kernel
theorem dX5_isReachAlike_12 : decode cX5_isReachAlike 12 = .ok (.if_icmp .ge 32, 3) := by decide +kernel
theorem dX5_isReachAlike_15 : decode cX5_isReachAlike 15 = .ok (.aload_n 0, 1) := by decide +kernel
theorem dX5_isReachAlike_16 : decode cX5_isReachAlike 16 = .ok (.getfield 10, 3) := by decide +kernel
theorem dX5_isReachAlike_19 : decode cX5_isReachAlike 19 = .ok (.iload_n 1, 1) := by decide +kernel
theorem dX5_isReachAlike_20 : decode cX5_isReachAlike 20 = .ok (.iload_n 2, 1) := by decide +kernel
theorem dX5_isReachAlike_21 : decode cX5_isReachAlike 21 = .ok (.invokevirtual 143, 3) := by decide +kernel
theorem dX5_isReachAlike_24 : decode cX5_isReachAlike 24 = .ok (.aload_n 0, 1) := by decide +kernel
theorem dX5_isReachAlike_25 : decode cX5_isReachAlike 25 = .ok (.getfield 10, 3) := by decide +kernel
theorem dX5_isReachAlike_28 : decode cX5_isReachAlike 28 = .ok (.iload_n 1, 1) := by decide +kernel
theorem dX5_isReachAlike_29 : decode cX5_isReachAlike 29 = .ok (.iload_n 2, 1) := by decide +kernel
theorem dX5_isReachAlike_30 : decode cX5_isReachAlike 30 = .ok (.invokevirtual 140, 3) := by decide +kernel
theorem dX5_isReachAlike_33 : decode cX5_isReachAlike 33 = .ok (.if_icmp .eq 5, 3) := by decide +kernel
theorem dX5_isReachAlike_36 : decode cX5_isReachAlike 36 = .ok (.iconst 0, 1) := by decide +kernel
theorem dX5_isReachAlike_37 : decode cX5_isReachAlike 37 = .ok (.ireturn, 1) := by decide +kernel
theorem dX5_isReachAlike_38 : decode cX5_isReachAlike 38 = .ok (.iinc 2 1, 3) := by decide +kernel
theorem dX5_isReachAlike_41 : decode cX5_isReachAlike 41 = .ok (.goto (-31), 3) := by decide +kernel
theorem dX5_isReachAlike_44 : decode cX5_isReachAlike 44 = .ok (.iinc 1 1, 3) := by decide +kernel
theorem dX5_isReachAlike_47 : decode cX5_isReachAlike 47 = .ok (.goto (-45), 3) := by decide +kernel
theorem dX5_isReachAlike_50 : decode cX5_isReachAlike 50 = .ok (.iconst 1, 1) := by decide +kernel
theorem dX5_isReachAlike_51 : decode cX5_isReachAlike 51 = .ok (.ireturn, 1) := by decide +kernel
theorem dX5_areBreakagesAlike_0 : decode cX5_areBreakagesAlike 0 = .ok (.iconst 1, 1) := by decide +kernel
theorem dX5_areBreakagesAlike_1 : decode cX5_areBreakagesAlike 1 = .ok (.istore_n 1, 1) := by decide +kernel
theorem dX5_areBreakagesAlike_2 : decode cX5_areBreakagesAlike 2 = .ok (.iload_n 1, 1) := by decide +kernel
theorem dX5_areBreakagesAlike_3 : decode cX5_areBreakagesAlike 3 = .ok (.bipush 9, 2) := by decide +kernel
theorem dX5_areBreakagesAlike_5 : decode cX5_areBreakagesAlike 5 = .ok (.if_icmp .gt 27, 3) := by decide +kernel
theorem dX5_areBreakagesAlike_8 : decode cX5_areBreakagesAlike 8 = .ok (.aload_n 0, 1) := by decide +kernel
theorem dX5_areBreakagesAlike_9 : decode cX5_areBreakagesAlike 9 = .ok (.iload_n 1, 1) := by decide +kernel
theorem dX5_areBreakagesAlike_10 : decode cX5_areBreakagesAlike 10 = .ok (.invokevirtual 156, 3) := by decide +kernel
theorem dX5_areBreakagesAlike_13 : decode cX5_areBreakagesAlike 13 = .ok (.aload_n 0, 1) := by decide +kernel
theorem dX5_areBreakagesAlike_14 : decode cX5_areBreakagesAlike 14 = .ok (.getfield 10, 3) := by decide +kernel
theorem dX5_areBreakagesAlike_17 : decode cX5_areBreakagesAlike 17 = .ok (.iload_n 1, 1) := by decide +kernel
theorem dX5_areBreakagesAlike_18 : decode cX5_areBreakagesAlike 18 = .ok (.invokevirtual 153, 3) := by decide +kernel
theorem dX5_areBreakagesAlike_21 : decode cX5_areBreakagesAlike 21 = .ok (.if_icmp .eq 5, 3) := by decide +kernel
theorem dX5_areBreakagesAlike_24 : decode cX5_areBreakagesAlike 24 = .ok (.iconst 0, 1) := by decide +kernel
theorem dX5_areBreakagesAlike_25 : decode cX5_areBreakagesAlike 25 = .ok (.ireturn, 1) := by decide +kernel
theorem dX5_areBreakagesAlike_26 : decode cX5_areBreakagesAlike 26 = .ok (.iinc 1 1, 3) := by decide +kernel
theorem dX5_areBreakagesAlike_29 : decode cX5_areBreakagesAlike 29 = .ok (.goto (-27), 3) := by decide +kernel
theorem dX5_areBreakagesAlike_32 : decode cX5_areBreakagesAlike 32 = .ok (.iconst 1, 1) := by decide +kernel
theorem dX5_areBreakagesAlike_33 : decode cX5_areBreakagesAlike 33 = .ok (.ireturn, 1) := by decide +kernel
