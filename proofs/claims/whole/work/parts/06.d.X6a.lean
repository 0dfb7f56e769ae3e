theorem dX6_init_0 : decode cX6_init 0 = .ok (.aload_n 0, 1) := by decide +kernel
theorem dX6_init_1 : decode cX6_init 1 = .ok (.invokespecial 3, 3) := by decide +kernel
theorem dX6_init_4 : decode cX6_init 4 = .ok (.aload_n 0, 1) := by decide +kernel
theorem dX6_init_5 : decode cX6_init 5 = .ok (.bipush 99, 2) := by decide +kernel
theorem dX6_init_7 : decode cX6_init 7 = .ok (.newarray .int, 2) := by decide +kernel
theorem dX6_init_9 : decode cX6_init 9 = .ok (.putfield 9, 3) := by decide +kernel
theorem dX6_init_12 : decode cX6_init 12 = .ok (.aload_n 0, 1) := by decide +kernel
theorem dX6_init_13 : decode cX6_init 13 = .ok (.bipush 99, 2) := by decide +kernel
theorem dX6_init_15 : decode cX6_init 15 = .ok (.newarray .int, 2) := by decide +kernel
theorem dX6_init_17 : decode cX6_init 17 = .ok (.putfield 13, 3) := by decide +kernel
theorem dX6_init_20 : decode cX6_init 20 = .ok (.aload_n 0, 1) := by decide +kernel
theorem dX6_init_21 : decode cX6_init 21 = .ok (.bipush 99, 2) := by decide +kernel
theorem dX6_init_23 : decode cX6_init 23 = .ok (.newarray .int, 2) := by decide +kernel
theorem dX6_init_25 : decode cX6_init 25 = .ok (.putfield 16, 3) := by decide +kernel
theorem dX6_init_28 : decode cX6_init 28 = .ok (.aload_n 0, 1) := by decide +kernel
theorem dX6_init_29 : decode cX6_init 29 = .ok (.bipush 99, 2) := by decide +kernel
theorem dX6_init_31 : decode cX6_init 31 = .ok (.newarray .int, 2) := by decide +kernel
theorem dX6_init_33 : decode cX6_init 33 = .ok (.putfield 19, 3) := by decide +kernel
theorem dX6_init_36 : decode cX6_init 36 = .ok (.aload_n 0, 1) := by decide +kernel
theorem dX6_init_37 : decode cX6_init 37 = .ok (.sipush 792, 3) := by decide +kernel
theorem dX6_init_40 : decode cX6_init 40 = .ok (.newarray .int, 2) := by decide +kernel
theorem dX6_init_42 : decode cX6_init 42 = .ok (.putfield 22, 3) := by decide +kernel
theorem dX6_init_45 : decode cX6_init 45 = .ok (.aload_n 0, 1) := by decide +kernel
theorem dX6_init_46 : decode cX6_init 46 = .ok (.bipush 40, 2) := by decide +kernel
theorem dX6_init_48 : decode cX6_init 48 = .ok (.newarray .char, 2) := by decide +kernel
theorem dX6_init_50 : decode cX6_init 50 = .ok (.putfield 25, 3) := by decide +kernel
theorem dX6_init_53 : decode cX6_init 53 = .ok (.aload_n 0, 1) := by decide +kernel
theorem dX6_init_54 : decode cX6_init 54 = .ok (.bipush 60, 2) := by decide +kernel
theorem dX6_init_56 : decode cX6_init 56 = .ok (.newarray .char, 2) := by decide +kernel
theorem dX6_init_58 : decode cX6_init 58 = .ok (.putfield 29, 3) := by decide +kernel
theorem dX6_init_61 : decode cX6_init 61 = .ok (.aload_n 0, 1) := by decide +kernel
theorem dX6_init_62 : decode cX6_init 62 = .ok (.iconst (-1), 1) := by decide +kernel
theorem dX6_init_63 : decode cX6_init 63 = .ok (.putfield 32, 3) := by decide +kernel
theorem dX6_init_66 : decode cX6_init 66 = .ok (.aload_n 0, 1) := by decide +kernel
theorem dX6_init_67 : decode cX6_init 67 = .ok (.sipush 180, 3) := by decide +kernel
theorem dX6_init_70 : decode cX6_init 70 = .ok (.newarray .int, 2) := by decide +kernel
theorem dX6_init_72 : decode cX6_init 72 = .ok (.putfield 36, 3) := by decide +kernel
theorem dX6_init_75 : decode cX6_init 75 = .ok (.aload_n 0, 1) := by decide +kernel
theorem dX6_init_76 : decode cX6_init 76 = .ok (.getfield 9, 3) := by decide +kernel
theorem dX6_init_79 : decode cX6_init 79 = .ok (.iconst 1, 1) := by decide +kernel
theorem dX6_init_80 : decode cX6_init 80 = .ok (.iconst 1, 1) := by decide +kernel
theorem dX6_init_81 : decode cX6_init 81 = .ok (.iastore, 1) := by decide +kernel
theorem dX6_init_82 : decode cX6_init 82 = .ok (.return_, 1) := by decide +kernel
theorem dX6_thrown_0 : decode cX6_thrown 0 = .ok (.aload_n 0, 1) := by decide +kernel
theorem dX6_thrown_1 : decode cX6_thrown 1 = .ok (.getfield 39, 3) := by decide +kernel
theorem dX6_thrown_4 : decode cX6_thrown 4 = .ok (.ireturn, 1) := by decide +kernel
theorem dX6_in_0 : decode cX6_in 0 = .ok (.iload_n 0, 1) := by decide +kernel
theorem dX6_in_1 : decode cX6_in 1 = .ok (.iload_n 1, 1) := by decide +kernel
theorem dX6_in_2 : decode cX6_in 2 = .ok (.if_icmp .lt 12, 3) := by decide +kernel
theorem dX6_in_5 : decode cX6_in 5 = .ok (.iload_n 0, 1) := by decide +kernel
theorem dX6_in_6 : decode cX6_in 6 = .ok (.iload_n 2, 1) := by decide +kernel
theorem dX6_in_7 : decode cX6_in 7 = .ok (.if_icmp .gt 7, 3) := by decide +kernel
theorem dX6_in_10 : decode cX6_in 10 = .ok (.iconst 1, 1) := by decide +kernel
theorem dX6_in_11 : decode cX6_in 11 = .ok (.goto 4, 3) := by decide +kernel
theorem dX6_in_14 : decode cX6_in 14 = .ok (.iconst 0, 1) := by decide +kernel
theorem dX6_in_15 : decode cX6_in 15 = .ok (.ireturn, 1) := by decide +kernel
theorem dX6_keep_0 : decode cX6_keep 0 = .ok (.aload_n 0, 1) := by decide +kernel
theorem dX6_keep_1 : decode cX6_keep 1 = .ok (.iconst 0, 1) := by decide +kernel
theorem dX6_keep_2 : decode cX6_keep 2 = .ok (.putfield 39, 3) := by decide +kernel
theorem dX6_keep_5 : decode cX6_keep 5 = .ok (.aload_n 0, 1) := by decide +kernel
theorem dX6_keep_6 : decode cX6_keep 6 = .ok (.getfield 9, 3) := by decide +kernel
theorem dX6_keep_9 : decode cX6_keep 9 = .ok (.iconst 0, 1) := by decide +kernel
theorem dX6_keep_10 : decode cX6_keep 10 = .ok (.aload_n 0, 1) := by decide +kernel
theorem dX6_keep_11 : decode cX6_keep 11 = .ok (.getfield 13, 3) := by decide +kernel
theorem dX6_keep_14 : decode cX6_keep 14 = .ok (.iconst 0, 1) := by decide +kernel
theorem dX6_keep_15 : decode cX6_keep 15 = .ok (.bipush 99, 2) := by decide +kernel
theorem dX6_keep_17 : decode cX6_keep 17 = .ok (.invokestatic 42, 3) := by decide +kernel
theorem dX6_keep_20 : decode cX6_keep 20 = .ok (.return_, 1) := by decide +kernel
theorem dX6_ends_0 : decode cX6_ends 0 = .ok (.aload_n 0, 1) := by decide +kernel
theorem dX6_ends_1 : decode cX6_ends 1 = .ok (.getfield 39, 3) := by decide +kernel
theorem dX6_ends_4 : decode cX6_ends 4 = .ok (.ifCond .le 20, 3) := by decide +kernel
theorem dX6_ends_7 : decode cX6_ends 7 = .ok (.aload_n 0, 1) := by decide +kernel
theorem dX6_ends_8 : decode cX6_ends 8 = .ok (.getfield 13, 3) := by decide +kernel
theorem dX6_ends_11 : decode cX6_ends 11 = .ok (.iconst 0, 1) := by decide +kernel
theorem dX6_ends_12 : decode cX6_ends 12 = .ok (.aload_n 0, 1) := by decide +kernel
theorem dX6_ends_13 : decode cX6_ends 13 = .ok (.getfield 9, 3) := by decide +kernel
theorem dX6_ends_16 : decode cX6_ends 16 = .ok (.iconst 0, 1) := by decide +kernel
theorem dX6_ends_17 : decode cX6_ends 17 = .ok (.bipush 99, 2) := by decide +kernel
theorem dX6_ends_19 : decode cX6_ends 19 = .ok (.invokestatic 42, 3) := by decide +kernel
theorem dX6_ends_22 : decode cX6_ends 22 = .ok (.iconst 0, 1) := by decide +kernel
theorem dX6_ends_23 : decode cX6_ends 23 = .ok (.ireturn, 1) := by decide +kernel
theorem dX6_ends_24 : decode cX6_ends 24 = .ok (.aload_n 0, 1) := by decide +kernel
theorem dX6_ends_25 : decode cX6_ends 25 = .ok (.getfield 48, 3) := by decide +kernel
theorem dX6_ends_28 : decode cX6_ends 28 = .ok (.bipush 8, 2) := by decide +kernel
theorem dX6_ends_30 : decode cX6_ends 30 = .ok (.if_icmp .ne 30, 3) := by decide +kernel
theorem dX6_ends_33 : decode cX6_ends 33 = .ok (.aload_n 0, 1) := by decide +kernel
theorem dX6_ends_34 : decode cX6_ends 34 = .ok (.getfield 22, 3) := by decide +kernel
theorem dX6_ends_37 : decode cX6_ends 37 = .ok (.bipush 99, 2) := by decide +kernel
theorem dX6_ends_39 : decode cX6_ends 39 = .ok (.aload_n 0, 1) := by decide +kernel
theorem dX6_ends_40 : decode cX6_ends 40 = .ok (.getfield 22, 3) := by decide +kernel
theorem dX6_ends_43 : decode cX6_ends 43 = .ok (.iconst 0, 1) := by decide +kernel
theorem dX6_ends_44 : decode cX6_ends 44 = .ok (.sipush 693, 3) := by decide +kernel
theorem dX6_ends_47 : decode cX6_ends 47 = .ok (.invokestatic 42, 3) := by decide +kernel
theorem dX6_ends_50 : decode cX6_ends 50 = .ok (.aload_n 0, 1) := by decide +kernel
theorem dX6_ends_51 : decode cX6_ends 51 = .ok (.dup, 1) := by decide +kernel
theorem dX6_ends_52 : decode cX6_ends 52 = .ok (.getfield 48, 3) := by decide +kernel
theorem dX6_ends_55 : decode cX6_ends 55 = .ok (.iconst 1, 1) := by decide +kernel
theorem dX6_ends_56 : decode cX6_ends 56 = .ok (.isub, 1) := by decide +kernel
theorem dX6_ends_57 : decode cX6_ends 57 = .ok (.putfield 48, 3) := by decide +kernel
theorem dX6_ends_60 : decode cX6_ends 60 = .ok (.aload_n 0, 1) := by decide +kernel
theorem dX6_ends_61 : decode cX6_ends 61 = .ok (.getfield 13, 3) := by decide +kernel
theorem dX6_ends_64 : decode cX6_ends 64 = .ok (.iconst 0, 1) := by decide +kernel
theorem dX6_ends_65 : decode cX6_ends 65 = .ok (.aload_n 0, 1) := by decide +kernel
theorem dX6_ends_66 : decode cX6_ends 66 = .ok (.getfield 22, 3) := by decide +kernel
theorem dX6_ends_69 : decode cX6_ends 69 = .ok (.bipush 99, 2) := by decide +kernel
theorem dX6_ends_71 : decode cX6_ends 71 = .ok (.aload_n 0, 1) := by decide +kernel
theorem dX6_ends_72 : decode cX6_ends 72 = .ok (.getfield 48, 3) := by decide +kernel
theorem dX6_ends_75 : decode cX6_ends 75 = .ok (.imul, 1) := by decide +kernel
theorem dX6_ends_76 : decode cX6_ends 76 = .ok (.bipush 99, 2) := by decide +kernel
theorem dX6_ends_78 : decode cX6_ends 78 = .ok (.invokestatic 42, 3) := by decide +kernel
theorem dX6_ends_81 : decode cX6_ends 81 = .ok (.aload_n 0, 1) := by decide +kernel
theorem dX6_ends_82 : decode cX6_ends 82 = .ok (.dup, 1) := by decide +kernel
theorem dX6_ends_83 : decode cX6_ends 83 = .ok (.getfield 48, 3) := by decide +kernel
theorem dX6_ends_86 : decode cX6_ends 86 = .ok (.iconst 1, 1) := by decide +kernel
theorem dX6_ends_87 : decode cX6_ends 87 = .ok (.iadd, 1) := by decide +kernel
theorem dX6_ends_88 : decode cX6_ends 88 = .ok (.putfield 48, 3) := by decide +kernel
theorem dX6_ends_91 : decode cX6_ends 91 = .ok (.iload_n 1, 1) := by decide +kernel
theorem dX6_ends_92 : decode cX6_ends 92 = .ok (.ireturn, 1) := by decide +kernel
theorem dX6_fails_0 : decode cX6_fails 0 = .ok (.aload_n 0, 1) := by decide +kernel
theorem dX6_fails_1 : decode cX6_fails 1 = .ok (.iload_n 1, 1) := by decide +kernel
theorem dX6_fails_2 : decode cX6_fails 2 = .ok (.putfield 39, 3) := by decide +kernel
theorem dX6_fails_5 : decode cX6_fails 5 = .ok (.iconst 0, 1) := by decide +kernel
theorem dX6_fails_6 : decode cX6_fails 6 = .ok (.ireturn, 1) := by decide +kernel
theorem dX6_refuse_0 : decode cX6_refuse 0 = .ok (.aload_n 0, 1) := by decide +kernel
theorem dX6_refuse_1 : decode cX6_refuse 1 = .ok (.iload_n 1, 1) := by decide +kernel
theorem dX6_refuse_2 : decode cX6_refuse 2 = .ok (.putfield 39, 3) := by decide +kernel
theorem dX6_refuse_5 : decode cX6_refuse 5 = .ok (.aload_n 0, 1) := by decide +kernel
theorem dX6_refuse_6 : decode cX6_refuse 6 = .ok (.iconst 1, 1) := by decide +kernel
theorem dX6_refuse_7 : decode cX6_refuse 7 = .ok (.putfield 51, 3) := by decide +kernel
theorem dX6_refuse_10 : decode cX6_refuse 10 = .ok (.aload_n 0, 1) := by decide +kernel
theorem dX6_refuse_11 : decode cX6_refuse 11 = .ok (.iload_n 2, 1) := by decide +kernel
theorem dX6_refuse_12 : decode cX6_refuse 12 = .ok (.putfield 55, 3) := by decide +kernel
theorem dX6_refuse_15 : decode cX6_refuse 15 = .ok (.aload_n 0, 1) := by decide +kernel
theorem dX6_refuse_16 : decode cX6_refuse 16 = .ok (.iload_n 3, 1) := by decide +kernel
theorem dX6_refuse_17 : decode cX6_refuse 17 = .ok (.putfield 58, 3) := by decide +kernel
theorem dX6_refuse_20 : decode cX6_refuse 20 = .ok (.iconst 0, 1) := by decide +kernel
theorem dX6_refuse_21 : decode cX6_refuse 21 = .ok (.ireturn, 1) := by decide +kernel
theorem dX6_refusal_0 : decode cX6_refusal 0 = .ok (.aload_n 0, 1) := by decide +kernel
theorem dX6_refusal_1 : decode cX6_refusal 1 = .ok (.aload_n 0, 1) := by decide +kernel
theorem dX6_refusal_2 : decode cX6_refusal 2 = .ok (.getfield 55, 3) := by decide +kernel
theorem dX6_refusal_5 : decode cX6_refusal 5 = .ok (.ifCond .ne 7, 3) := by decide +kernel
theorem dX6_refusal_8 : decode cX6_refusal 8 = .ok (.iconst 1, 1) := by decide +kernel
theorem dX6_refusal_9 : decode cX6_refusal 9 = .ok (.goto 4, 3) := by decide +kernel
theorem dX6_refusal_12 : decode cX6_refusal 12 = .ok (.iconst 0, 1) := by decide +kernel
theorem dX6_refusal_13 : decode cX6_refusal 13 = .ok (.putfield 39, 3) := by decide +kernel
theorem dX6_refusal_16 : decode cX6_refusal 16 = .ok (.aload_n 0, 1) := by decide +kernel
theorem dX6_refusal_17 : decode cX6_refusal 17 = .ok (.getfield 39, 3) := by decide +kernel
theorem dX6_refusal_20 : decode cX6_refusal 20 = .ok (.ifCond .le 7, 3) := by decide +kernel
theorem dX6_refusal_23 : decode cX6_refusal 23 = .ok (.iconst 0, 1) := by decide +kernel
theorem dX6_refusal_24 : decode cX6_refusal 24 = .ok (.goto 18, 3) := by decide +kernel
theorem dX6_refusal_27 : decode cX6_refusal 27 = .ok (.iload_n 1, 1) := by decide +kernel
theorem dX6_refusal_28 : decode cX6_refusal 28 = .ok (.ifCond .eq 10, 3) := by decide +kernel
theorem dX6_refusal_31 : decode cX6_refusal 31 = .ok (.aload_n 0, 1) := by decide +kernel
theorem dX6_refusal_32 : decode cX6_refusal 32 = .ok (.getfield 58, 3) := by decide +kernel
theorem dX6_refusal_35 : decode cX6_refusal 35 = .ok (.goto 7, 3) := by decide +kernel
theorem dX6_refusal_38 : decode cX6_refusal 38 = .ok (.aload_n 0, 1) := by decide +kernel
theorem dX6_refusal_39 : decode cX6_refusal 39 = .ok (.getfield 55, 3) := by decide +kernel
theorem dX6_refusal_42 : decode cX6_refusal 42 = .ok (.ireturn, 1) := by decide +kernel
theorem dX6_isProp_0 : decode cX6_isProp 0 = .ok (.iload_n 1, 1) := by decide +kernel
theorem dX6_isProp_1 : decode cX6_isProp 1 = .ok (.iconst 0, 1) := by decide +kernel
theorem dX6_isProp_2 : decode cX6_isProp 2 = .ok (.aload_n 0, 1) := by decide +kernel
theorem dX6_isProp_3 : decode cX6_isProp 3 = .ok (.getfield 9, 3) := by decide +kernel
theorem dX6_isProp_6 : decode cX6_isProp 6 = .ok (.iconst 0, 1) := by decide +kernel
theorem dX6_isProp_7 : decode cX6_isProp 7 = .ok (.iaload, 1) := by decide +kernel
theorem dX6_isProp_8 : decode cX6_isProp 8 = .ok (.iconst 1, 1) := by decide +kernel
theorem dX6_isProp_9 : decode cX6_isProp 9 = .ok (.isub, 1) := by decide +kernel
theorem dX6_isProp_10 : decode cX6_isProp 10 = .ok (.invokestatic 61, 3) := by decide +kernel
theorem dX6_isProp_13 : decode cX6_isProp 13 = .ok (.ireturn, 1) := by decide +kernel
theorem dX6_isFloor_0 : decode cX6_isFloor 0 = .ok (.iload_n 0, 1) := by decide +kernel
theorem dX6_isFloor_1 : decode cX6_isFloor 1 = .ok (.iconst 0, 1) := by decide +kernel
theorem dX6_isFloor_2 : decode cX6_isFloor 2 = .ok (.iconst 4, 1) := by decide +kernel
theorem dX6_isFloor_3 : decode cX6_isFloor 3 = .ok (.invokestatic 61, 3) := by decide +kernel
theorem dX6_isFloor_6 : decode cX6_isFloor 6 = .ok (.ireturn, 1) := by decide +kernel
theorem dX6_isStrength_0 : decode cX6_isStrength 0 = .ok (.iload_n 0, 1) := by decide +kernel
theorem dX6_isStrength_1 : decode cX6_isStrength 1 = .ok (.iconst 1, 1) := by decide +kernel
theorem dX6_isStrength_2 : decode cX6_isStrength 2 = .ok (.bipush 9, 2) := by decide +kernel
theorem dX6_isStrength_4 : decode cX6_isStrength 4 = .ok (.invokestatic 61, 3) := by decide +kernel
theorem dX6_isStrength_7 : decode cX6_isStrength 7 = .ok (.ireturn, 1) := by decide +kernel
theorem dX6_of_0 : decode cX6_of 0 = .ok (.aload_n 0, 1) := by decide +kernel
theorem dX6_of_1 : decode cX6_of 1 = .ok (.getfield 9, 3) := by decide +kernel
theorem dX6_of_4 : decode cX6_of 4 = .ok (.bipush 15, 2) := by decide +kernel
theorem dX6_of_6 : decode cX6_of 6 = .ok (.bipush 7, 2) := by decide +kernel
theorem dX6_of_8 : decode cX6_of 8 = .ok (.iload_n 1, 1) := by decide +kernel
theorem dX6_of_9 : decode cX6_of 9 = .ok (.imul, 1) := by decide +kernel
theorem dX6_of_10 : decode cX6_of 10 = .ok (.iadd, 1) := by decide +kernel
theorem dX6_of_11 : decode cX6_of 11 = .ok (.iload_n 2, 1) := by decide +kernel
theorem dX6_of_12 : decode cX6_of 12 = .ok (.iadd, 1) := by decide +kernel
theorem dX6_of_13 : decode cX6_of 13 = .ok (.iaload, 1) := by decide +kernel
theorem dX6_of_14 : decode cX6_of 14 = .ok (.ireturn, 1) := by decide +kernel
theorem dX6_sets_0 : decode cX6_sets 0 = .ok (.aload_n 0, 1) := by decide +kernel
theorem dX6_sets_1 : decode cX6_sets 1 = .ok (.getfield 9, 3) := by decide +kernel
theorem dX6_sets_4 : decode cX6_sets 4 = .ok (.bipush 15, 2) := by decide +kernel
theorem dX6_sets_6 : decode cX6_sets 6 = .ok (.bipush 7, 2) := by decide +kernel
theorem dX6_sets_8 : decode cX6_sets 8 = .ok (.iload_n 1, 1) := by decide +kernel
theorem dX6_sets_9 : decode cX6_sets 9 = .ok (.imul, 1) := by decide +kernel
theorem dX6_sets_10 : decode cX6_sets 10 = .ok (.iadd, 1) := by decide +kernel
theorem dX6_sets_11 : decode cX6_sets 11 = .ok (.iload_n 2, 1) := by decide +kernel
theorem dX6_sets_12 : decode cX6_sets 12 = .ok (.iadd, 1) := by decide +kernel
theorem dX6_sets_13 : decode cX6_sets 13 = .ok (.iload_n 3, 1) := by decide +kernel
theorem dX6_sets_14 : decode cX6_sets 14 = .ok (.iastore, 1) := by decide +kernel
theorem dX6_sets_15 : decode cX6_sets 15 = .ok (.return_, 1) := by decide +kernel
theorem dX6_there_0 : decode cX6_there 0 = .ok (.iconst 0, 1) := by decide +kernel
theorem dX6_there_1 : decode cX6_there 1 = .ok (.istore_n 3, 1) := by decide +kernel
theorem dX6_there_2 : decode cX6_there 2 = .ok (.iconst 0, 1) := by decide +kernel
theorem dX6_there_3 : decode cX6_there 3 = .ok (.istore 4, 2) := by decide +kernel
theorem dX6_there_5 : decode cX6_there 5 = .ok (.iload 4, 2) := by decide +kernel
theorem dX6_there_7 : decode cX6_there 7 = .ok (.aload_n 0, 1) := by decide +kernel
theorem dX6_there_8 : decode cX6_there 8 = .ok (.getfield 9, 3) := by decide +kernel
theorem dX6_there_11 : decode cX6_there 11 = .ok (.iconst 0, 1) := by decide +kernel
theorem dX6_there_12 : decode cX6_there 12 = .ok (.iaload, 1) := by decide +kernel
theorem dX6_there_13 : decode cX6_there 13 = .ok (.if_icmp .ge 39, 3) := by decide +kernel
theorem dX6_there_16 : decode cX6_there 16 = .ok (.iload_n 3, 1) := by decide +kernel
theorem dX6_there_17 : decode cX6_there 17 = .ok (.aload_n 0, 1) := by decide +kernel
theorem dX6_there_18 : decode cX6_there 18 = .ok (.iload 4, 2) := by decide +kernel
theorem dX6_there_20 : decode cX6_there 20 = .ok (.iconst 0, 1) := by decide +kernel
theorem dX6_there_21 : decode cX6_there 21 = .ok (.invokevirtual 65, 3) := by decide +kernel
theorem dX6_there_24 : decode cX6_there 24 = .ok (.iload_n 1, 1) := by decide +kernel
theorem dX6_there_25 : decode cX6_there 25 = .ok (.if_icmp .ne 18, 3) := by decide +kernel
theorem dX6_there_28 : decode cX6_there 28 = .ok (.aload_n 0, 1) := by decide +kernel
theorem dX6_there_29 : decode cX6_there 29 = .ok (.iload 4, 2) := by decide +kernel
theorem dX6_there_31 : decode cX6_there 31 = .ok (.iconst 1, 1) := by decide +kernel
theorem dX6_there_32 : decode cX6_there 32 = .ok (.invokevirtual 65, 3) := by decide +kernel
theorem dX6_there_35 : decode cX6_there 35 = .ok (.iload_n 2, 1) := by decide +kernel
theorem dX6_there_36 : decode cX6_there 36 = .ok (.if_icmp .ne 7, 3) := by decide +kernel
theorem dX6_there_39 : decode cX6_there 39 = .ok (.iconst 1, 1) := by decide +kernel
theorem dX6_there_40 : decode cX6_there 40 = .ok (.goto 4, 3) := by decide +kernel
theorem dX6_there_43 : decode cX6_there 43 = .ok (.iconst 0, 1) := by decide +kernel
theorem dX6_there_44 : decode cX6_there 44 = .ok (.iadd, 1) := by decide +kernel
theorem dX6_there_45 : decode cX6_there 45 = .ok (.istore_n 3, 1) := by decide +kernel
theorem dX6_there_46 : decode cX6_there 46 = .ok (.iinc 4 1, 3) := by decide +kernel
theorem dX6_there_49 : decode cX6_there 49 = .ok (.goto (-44), 3) := by decide +kernel
theorem dX6_there_52 : decode cX6_there 52 = .ok (.iload_n 3, 1) := by decide +kernel
theorem dX6_there_53 : decode cX6_there 53 = .ok (.ireturn, 1) := by decide +kernel
theorem dX6_kindMany_0 : decode cX6_kindMany 0 = .ok (.iconst 0, 1) := by decide +kernel
theorem dX6_kindMany_1 : decode cX6_kindMany 1 = .ok (.istore_n 2, 1) := by decide +kernel
theorem dX6_kindMany_2 : decode cX6_kindMany 2 = .ok (.iconst 0, 1) := by decide +kernel
theorem dX6_kindMany_3 : decode cX6_kindMany 3 = .ok (.istore_n 3, 1) := by decide +kernel
theorem dX6_kindMany_4 : decode cX6_kindMany 4 = .ok (.iload_n 3, 1) := by decide +kernel
theorem dX6_kindMany_5 : decode cX6_kindMany 5 = .ok (.aload_n 0, 1) := by decide +kernel
theorem dX6_kindMany_6 : decode cX6_kindMany 6 = .ok (.getfield 9, 3) := by decide +kernel
theorem dX6_kindMany_9 : decode cX6_kindMany 9 = .ok (.iconst 0, 1) := by decide +kernel
theorem dX6_kindMany_10 : decode cX6_kindMany 10 = .ok (.iaload, 1) := by decide +kernel
theorem dX6_kindMany_11 : decode cX6_kindMany 11 = .ok (.if_icmp .ge 27, 3) := by decide +kernel
theorem dX6_kindMany_14 : decode cX6_kindMany 14 = .ok (.iload_n 2, 1) := by decide +kernel
theorem dX6_kindMany_15 : decode cX6_kindMany 15 = .ok (.aload_n 0, 1) := by decide +kernel
theorem dX6_kindMany_16 : decode cX6_kindMany 16 = .ok (.iload_n 3, 1) := by decide +kernel
theorem dX6_kindMany_17 : decode cX6_kindMany 17 = .ok (.iconst 0, 1) := by decide +kernel
theorem dX6_kindMany_18 : decode cX6_kindMany 18 = .ok (.invokevirtual 65, 3) := by decide +kernel
theorem dX6_kindMany_21 : decode cX6_kindMany 21 = .ok (.iload_n 1, 1) := by decide +kernel
theorem dX6_kindMany_22 : decode cX6_kindMany 22 = .ok (.if_icmp .ne 7, 3) := by decide +kernel
theorem dX6_kindMany_25 : decode cX6_kindMany 25 = .ok (.iconst 1, 1) := by decide +kernel
theorem dX6_kindMany_26 : decode cX6_kindMany 26 = .ok (.goto 4, 3) := by decide +kernel
theorem dX6_kindMany_29 : decode cX6_kindMany 29 = .ok (.iconst 0, 1) := by decide +kernel
theorem dX6_kindMany_30 : decode cX6_kindMany 30 = .ok (.iadd, 1) := by decide +kernel
theorem dX6_kindMany_31 : decode cX6_kindMany 31 = .ok (.istore_n 2, 1) := by decide +kernel
theorem dX6_kindMany_32 : decode cX6_kindMany 32 = .ok (.iinc 3 1, 3) := by decide +kernel
theorem dX6_kindMany_35 : decode cX6_kindMany 35 = .ok (.goto (-31), 3) := by decide +kernel
theorem dX6_kindMany_38 : decode cX6_kindMany 38 = .ok (.iload_n 2, 1) := by decide +kernel
theorem dX6_kindMany_39 : decode cX6_kindMany 39 = .ok (.ireturn, 1) := by decide +kernel
theorem dX6_comes_0 : decode cX6_comes 0 = .ok (.aload_n 0, 1) := by decide +kernel
theorem dX6_comes_1 : decode cX6_comes 1 = .ok (.getfield 9, 3) := by decide +kernel
theorem dX6_comes_4 : decode cX6_comes 4 = .ok (.iconst 0, 1) := by decide +kernel
theorem dX6_comes_5 : decode cX6_comes 5 = .ok (.iaload, 1) := by decide +kernel
theorem dX6_comes_6 : decode cX6_comes 6 = .ok (.istore 4, 2) := by decide +kernel
theorem dX6_comes_8 : decode cX6_comes 8 = .ok (.iload_n 2, 1) := by decide +kernel
theorem dX6_comes_9 : decode cX6_comes 9 = .ok (.invokestatic 69, 3) := by decide +kernel
theorem dX6_comes_12 : decode cX6_comes 12 = .ok (.ifCond .eq 22, 3) := by decide +kernel
theorem dX6_comes_15 : decode cX6_comes 15 = .ok (.iload_n 3, 1) := by decide +kernel
theorem dX6_comes_16 : decode cX6_comes 16 = .ok (.iload_n 1, 1) := by decide +kernel
theorem dX6_comes_17 : decode cX6_comes 17 = .ok (.iconst 3, 1) := by decide +kernel
theorem dX6_comes_18 : decode cX6_comes 18 = .ok (.if_icmp .ne 7, 3) := by decide +kernel
theorem dX6_comes_21 : decode cX6_comes 21 = .ok (.iconst 0, 1) := by decide +kernel
theorem dX6_comes_22 : decode cX6_comes 22 = .ok (.goto 4, 3) := by decide +kernel
theorem dX6_comes_25 : decode cX6_comes 25 = .ok (.iconst 1, 1) := by decide +kernel
theorem dX6_comes_26 : decode cX6_comes 26 = .ok (.bipush 9, 2) := by decide +kernel
theorem dX6_comes_28 : decode cX6_comes 28 = .ok (.invokestatic 61, 3) := by decide +kernel
theorem dX6_comes_31 : decode cX6_comes 31 = .ok (.ifCond .ne 9, 3) := by decide +kernel
theorem dX6_comes_34 : decode cX6_comes 34 = .ok (.aload_n 0, 1) := by decide +kernel
theorem dX6_comes_35 : decode cX6_comes 35 = .ok (.iconst 1, 1) := by decide +kernel
theorem dX6_comes_36 : decode cX6_comes 36 = .ok (.invokevirtual 73, 3) := by decide +kernel
theorem dX6_comes_39 : decode cX6_comes 39 = .ok (.ireturn, 1) := by decide +kernel
theorem dX6_comes_40 : decode cX6_comes 40 = .ok (.iload 4, 2) := by decide +kernel
theorem dX6_comes_42 : decode cX6_comes 42 = .ok (.bipush 12, 2) := by decide +kernel
theorem dX6_comes_44 : decode cX6_comes 44 = .ok (.if_icmp .ne 12, 3) := by decide +kernel
theorem dX6_comes_47 : decode cX6_comes 47 = .ok (.aload_n 0, 1) := by decide +kernel
theorem dX6_comes_48 : decode cX6_comes 48 = .ok (.iconst 2, 1) := by decide +kernel
theorem dX6_comes_49 : decode cX6_comes 49 = .ok (.iconst 1, 1) := by decide +kernel
theorem dX6_comes_50 : decode cX6_comes 50 = .ok (.bipush 12, 2) := by decide +kernel
theorem dX6_comes_52 : decode cX6_comes 52 = .ok (.invokevirtual 77, 3) := by decide +kernel
theorem dX6_comes_55 : decode cX6_comes 55 = .ok (.ireturn, 1) := by decide +kernel
theorem dX6_comes_56 : decode cX6_comes 56 = .ok (.aload_n 0, 1) := by decide +kernel
theorem dX6_comes_57 : decode cX6_comes 57 = .ok (.iload_n 1, 1) := by decide +kernel
theorem dX6_comes_58 : decode cX6_comes 58 = .ok (.iload_n 2, 1) := by decide +kernel
theorem dX6_comes_59 : decode cX6_comes 59 = .ok (.invokevirtual 81, 3) := by decide +kernel
theorem dX6_comes_62 : decode cX6_comes 62 = .ok (.iconst 5, 1) := by decide +kernel
theorem dX6_comes_63 : decode cX6_comes 63 = .ok (.if_icmp .ne 11, 3) := by decide +kernel
theorem dX6_comes_66 : decode cX6_comes 66 = .ok (.aload_n 0, 1) := by decide +kernel
theorem dX6_comes_67 : decode cX6_comes 67 = .ok (.iconst 2, 1) := by decide +kernel
theorem dX6_comes_68 : decode cX6_comes 68 = .ok (.iconst 2, 1) := by decide +kernel
theorem dX6_comes_69 : decode cX6_comes 69 = .ok (.iload_n 2, 1) := by decide +kernel
theorem dX6_comes_70 : decode cX6_comes 70 = .ok (.invokevirtual 77, 3) := by decide +kernel
theorem dX6_comes_73 : decode cX6_comes 73 = .ok (.ireturn, 1) := by decide +kernel
theorem dX6_comes_74 : decode cX6_comes 74 = .ok (.iconst 0, 1) := by decide +kernel
theorem dX6_comes_75 : decode cX6_comes 75 = .ok (.istore 5, 2) := by decide +kernel
theorem dX6_comes_77 : decode cX6_comes 77 = .ok (.iload 5, 2) := by decide +kernel
theorem dX6_comes_79 : decode cX6_comes 79 = .ok (.bipush 7, 2) := by decide +kernel
theorem dX6_comes_81 : decode cX6_comes 81 = .ok (.if_icmp .ge 47, 3) := by decide +kernel
theorem dX6_comes_84 : decode cX6_comes 84 = .ok (.aload_n 0, 1) := by decide +kernel
theorem dX6_comes_85 : decode cX6_comes 85 = .ok (.iload 4, 2) := by decide +kernel
theorem dX6_comes_87 : decode cX6_comes 87 = .ok (.iload 5, 2) := by decide +kernel
theorem dX6_comes_89 : decode cX6_comes 89 = .ok (.iload 5, 2) := by decide +kernel
theorem dX6_comes_91 : decode cX6_comes 91 = .ok (.ifCond .ne 7, 3) := by decide +kernel
theorem dX6_comes_94 : decode cX6_comes 94 = .ok (.iload_n 1, 1) := by decide +kernel
theorem dX6_comes_95 : decode cX6_comes 95 = .ok (.goto 24, 3) := by decide +kernel
theorem dX6_comes_98 : decode cX6_comes 98 = .ok (.iload 5, 2) := by decide +kernel
theorem dX6_comes_100 : decode cX6_comes 100 = .ok (.iconst 1, 1) := by decide +kernel
theorem dX6_comes_101 : decode cX6_comes 101 = .ok (.if_icmp .ne 7, 3) := by decide +kernel
theorem dX6_comes_104 : decode cX6_comes 104 = .ok (.iload_n 2, 1) := by decide +kernel
theorem dX6_comes_105 : decode cX6_comes 105 = .ok (.goto 14, 3) := by decide +kernel
theorem dX6_comes_108 : decode cX6_comes 108 = .ok (.iload 5, 2) := by decide +kernel
theorem dX6_comes_110 : decode cX6_comes 110 = .ok (.iconst 2, 1) := by decide +kernel
theorem dX6_comes_111 : decode cX6_comes 111 = .ok (.if_icmp .ne 7, 3) := by decide +kernel
theorem dX6_comes_114 : decode cX6_comes 114 = .ok (.iload_n 3, 1) := by decide +kernel
theorem dX6_comes_115 : decode cX6_comes 115 = .ok (.goto 4, 3) := by decide +kernel
theorem dX6_comes_118 : decode cX6_comes 118 = .ok (.iconst 0, 1) := by decide +kernel
theorem dX6_comes_119 : decode cX6_comes 119 = .ok (.invokevirtual 84, 3) := by decide +kernel
theorem dX6_comes_122 : decode cX6_comes 122 = .ok (.iinc 5 1, 3) := by decide +kernel
theorem dX6_comes_125 : decode cX6_comes 125 = .ok (.goto (-48), 3) := by decide +kernel
theorem dX6_comes_128 : decode cX6_comes 128 = .ok (.aload_n 0, 1) := by decide +kernel
theorem dX6_comes_129 : decode cX6_comes 129 = .ok (.getfield 9, 3) := by decide +kernel
theorem dX6_comes_132 : decode cX6_comes 132 = .ok (.iconst 0, 1) := by decide +kernel
theorem dX6_comes_133 : decode cX6_comes 133 = .ok (.dup2, 1) := by decide +kernel
theorem dX6_comes_134 : decode cX6_comes 134 = .ok (.iaload, 1) := by decide +kernel
theorem dX6_comes_135 : decode cX6_comes 135 = .ok (.iconst 1, 1) := by decide +kernel
theorem dX6_comes_136 : decode cX6_comes 136 = .ok (.iadd, 1) := by decide +kernel
theorem dX6_comes_137 : decode cX6_comes 137 = .ok (.iastore, 1) := by decide +kernel
theorem dX6_comes_138 : decode cX6_comes 138 = .ok (.iload 4, 2) := by decide +kernel
theorem dX6_comes_140 : decode cX6_comes 140 = .ok (.ireturn, 1) := by decide +kernel
theorem dX6_cup_0 : decode cX6_cup 0 = .ok (.aload_n 0, 1) := by decide +kernel
theorem dX6_cup_1 : decode cX6_cup 1 = .ok (.invokevirtual 88, 3) := by decide +kernel
theorem dX6_cup_4 : decode cX6_cup 4 = .ok (.aload_n 0, 1) := by decide +kernel
theorem dX6_cup_5 : decode cX6_cup 5 = .ok (.aload_n 0, 1) := by decide +kernel
theorem dX6_cup_6 : decode cX6_cup 6 = .ok (.iconst 1, 1) := by decide +kernel
theorem dX6_cup_7 : decode cX6_cup 7 = .ok (.iload_n 1, 1) := by decide +kernel
theorem dX6_cup_8 : decode cX6_cup 8 = .ok (.iload_n 2, 1) := by decide +kernel
theorem dX6_cup_9 : decode cX6_cup 9 = .ok (.invokevirtual 91, 3) := by decide +kernel
theorem dX6_cup_12 : decode cX6_cup 12 = .ok (.invokevirtual 94, 3) := by decide +kernel
theorem dX6_cup_15 : decode cX6_cup 15 = .ok (.ireturn, 1) := by decide +kernel
theorem dX6_lamp_0 : decode cX6_lamp 0 = .ok (.aload_n 0, 1) := by decide +kernel
theorem dX6_lamp_1 : decode cX6_lamp 1 = .ok (.invokevirtual 88, 3) := by decide +kernel
theorem dX6_lamp_4 : decode cX6_lamp 4 = .ok (.aload_n 0, 1) := by decide +kernel
theorem dX6_lamp_5 : decode cX6_lamp 5 = .ok (.aload_n 0, 1) := by decide +kernel
theorem dX6_lamp_6 : decode cX6_lamp 6 = .ok (.iconst 2, 1) := by decide +kernel
theorem dX6_lamp_7 : decode cX6_lamp 7 = .ok (.iload_n 1, 1) := by decide +kernel
theorem dX6_lamp_8 : decode cX6_lamp 8 = .ok (.iload_n 2, 1) := by decide +kernel
theorem dX6_lamp_9 : decode cX6_lamp 9 = .ok (.invokevirtual 91, 3) := by decide +kernel
theorem dX6_lamp_12 : decode cX6_lamp 12 = .ok (.invokevirtual 94, 3) := by decide +kernel
theorem dX6_lamp_15 : decode cX6_lamp 15 = .ok (.ireturn, 1) := by decide +kernel
theorem dX6_cat_0 : decode cX6_cat 0 = .ok (.aload_n 0, 1) := by decide +kernel
theorem dX6_cat_1 : decode cX6_cat 1 = .ok (.invokevirtual 88, 3) := by decide +kernel
theorem dX6_cat_4 : decode cX6_cat 4 = .ok (.aload_n 0, 1) := by decide +kernel
theorem dX6_cat_5 : decode cX6_cat 5 = .ok (.aload_n 0, 1) := by decide +kernel
theorem dX6_cat_6 : decode cX6_cat 6 = .ok (.iconst 3, 1) := by decide +kernel
theorem dX6_cat_7 : decode cX6_cat 7 = .ok (.iload_n 1, 1) := by decide +kernel
theorem dX6_cat_8 : decode cX6_cat 8 = .ok (.iload_n 2, 1) := by decide +kernel
theorem dX6_cat_9 : decode cX6_cat 9 = .ok (.invokevirtual 91, 3) := by decide +kernel
theorem dX6_cat_12 : decode cX6_cat 12 = .ok (.invokevirtual 94, 3) := by decide +kernel
theorem dX6_cat_15 : decode cX6_cat 15 = .ok (.ireturn, 1) := by decide +kernel
theorem dX6_doTake_0 : decode cX6_doTake 0 = .ok (.aload_n 0, 1) := by decide +kernel
theorem dX6_doTake_1 : decode cX6_doTake 1 = .ok (.iload_n 1, 1) := by decide +kernel
theorem dX6_doTake_2 : decode cX6_doTake 2 = .ok (.invokevirtual 97, 3) := by decide +kernel
theorem dX6_doTake_5 : decode cX6_doTake 5 = .ok (.ifCond .ne 9, 3) := by decide +kernel
theorem dX6_doTake_8 : decode cX6_doTake 8 = .ok (.aload_n 0, 1) := by decide +kernel
theorem dX6_doTake_9 : decode cX6_doTake 9 = .ok (.iconst 1, 1) := by decide +kernel
theorem dX6_doTake_10 : decode cX6_doTake 10 = .ok (.invokevirtual 73, 3) := by decide +kernel
theorem dX6_doTake_13 : decode cX6_doTake 13 = .ok (.ireturn, 1) := by decide +kernel
theorem dX6_doTake_14 : decode cX6_doTake 14 = .ok (.aload_n 0, 1) := by decide +kernel
theorem dX6_doTake_15 : decode cX6_doTake 15 = .ok (.getfield 9, 3) := by decide +kernel
theorem dX6_doTake_18 : decode cX6_doTake 18 = .ok (.iconst 0, 1) := by decide +kernel
theorem dX6_doTake_19 : decode cX6_doTake 19 = .ok (.iaload, 1) := by decide +kernel
theorem dX6_doTake_20 : decode cX6_doTake 20 = .ok (.iconst 1, 1) := by decide +kernel
theorem dX6_doTake_21 : decode cX6_doTake 21 = .ok (.isub, 1) := by decide +kernel
theorem dX6_doTake_22 : decode cX6_doTake 22 = .ok (.istore_n 2, 1) := by decide +kernel
theorem dX6_doTake_23 : decode cX6_doTake 23 = .ok (.bipush 15, 2) := by decide +kernel
theorem dX6_doTake_25 : decode cX6_doTake 25 = .ok (.bipush 7, 2) := by decide +kernel
theorem dX6_doTake_27 : decode cX6_doTake 27 = .ok (.iload_n 1, 1) := by decide +kernel
theorem dX6_doTake_28 : decode cX6_doTake 28 = .ok (.imul, 1) := by decide +kernel
theorem dX6_doTake_29 : decode cX6_doTake 29 = .ok (.iadd, 1) := by decide +kernel
theorem dX6_doTake_30 : decode cX6_doTake 30 = .ok (.istore_n 3, 1) := by decide +kernel
theorem dX6_doTake_31 : decode cX6_doTake 31 = .ok (.aload_n 0, 1) := by decide +kernel
theorem dX6_doTake_32 : decode cX6_doTake 32 = .ok (.getfield 9, 3) := by decide +kernel
theorem dX6_doTake_35 : decode cX6_doTake 35 = .ok (.iload_n 3, 1) := by decide +kernel
theorem dX6_doTake_36 : decode cX6_doTake 36 = .ok (.bipush 7, 2) := by decide +kernel
theorem dX6_doTake_38 : decode cX6_doTake 38 = .ok (.iadd, 1) := by decide +kernel
theorem dX6_doTake_39 : decode cX6_doTake 39 = .ok (.aload_n 0, 1) := by decide +kernel
theorem dX6_doTake_40 : decode cX6_doTake 40 = .ok (.getfield 9, 3) := by decide +kernel
theorem dX6_doTake_43 : decode cX6_doTake 43 = .ok (.iload_n 3, 1) := by decide +kernel
theorem dX6_doTake_44 : decode cX6_doTake 44 = .ok (.bipush 7, 2) := by decide +kernel
theorem dX6_doTake_46 : decode cX6_doTake 46 = .ok (.iload_n 2, 1) := by decide +kernel
theorem dX6_doTake_47 : decode cX6_doTake 47 = .ok (.iload_n 1, 1) := by decide +kernel
theorem dX6_doTake_48 : decode cX6_doTake 48 = .ok (.isub, 1) := by decide +kernel
theorem dX6_doTake_49 : decode cX6_doTake 49 = .ok (.imul, 1) := by decide +kernel
theorem dX6_doTake_50 : decode cX6_doTake 50 = .ok (.invokestatic 42, 3) := by decide +kernel
theorem dX6_doTake_53 : decode cX6_doTake 53 = .ok (.aload_n 0, 1) := by decide +kernel
theorem dX6_doTake_54 : decode cX6_doTake 54 = .ok (.getfield 9, 3) := by decide +kernel
theorem dX6_doTake_57 : decode cX6_doTake 57 = .ok (.iconst 0, 1) := by decide +kernel
theorem dX6_doTake_58 : decode cX6_doTake 58 = .ok (.iload_n 2, 1) := by decide +kernel
theorem dX6_doTake_59 : decode cX6_doTake 59 = .ok (.iastore, 1) := by decide +kernel
theorem dX6_doTake_60 : decode cX6_doTake 60 = .ok (.iload_n 2, 1) := by decide +kernel
theorem dX6_doTake_61 : decode cX6_doTake 61 = .ok (.ireturn, 1) := by decide +kernel
theorem dX6_take_0 : decode cX6_take 0 = .ok (.aload_n 0, 1) := by decide +kernel
theorem dX6_take_1 : decode cX6_take 1 = .ok (.invokevirtual 88, 3) := by decide +kernel
theorem dX6_take_4 : decode cX6_take 4 = .ok (.aload_n 0, 1) := by decide +kernel
theorem dX6_take_5 : decode cX6_take 5 = .ok (.aload_n 0, 1) := by decide +kernel
theorem dX6_take_6 : decode cX6_take 6 = .ok (.iload_n 1, 1) := by decide +kernel
theorem dX6_take_7 : decode cX6_take 7 = .ok (.invokevirtual 100, 3) := by decide +kernel
theorem dX6_take_10 : decode cX6_take 10 = .ok (.invokevirtual 94, 3) := by decide +kernel
theorem dX6_take_13 : decode cX6_take 13 = .ok (.ireturn, 1) := by decide +kernel
theorem dX6_doCue_0 : decode cX6_doCue 0 = .ok (.aload_n 0, 1) := by decide +kernel
theorem dX6_doCue_1 : decode cX6_doCue 1 = .ok (.iload_n 1, 1) := by decide +kernel
theorem dX6_doCue_2 : decode cX6_doCue 2 = .ok (.invokevirtual 97, 3) := by decide +kernel
theorem dX6_doCue_5 : decode cX6_doCue 5 = .ok (.ifCond .ne 9, 3) := by decide +kernel
theorem dX6_doCue_8 : decode cX6_doCue 8 = .ok (.aload_n 0, 1) := by decide +kernel
theorem dX6_doCue_9 : decode cX6_doCue 9 = .ok (.iconst 1, 1) := by decide +kernel
theorem dX6_doCue_10 : decode cX6_doCue 10 = .ok (.invokevirtual 73, 3) := by decide +kernel
theorem dX6_doCue_13 : decode cX6_doCue 13 = .ok (.ireturn, 1) := by decide +kernel
theorem dX6_doCue_14 : decode cX6_doCue 14 = .ok (.iload_n 2, 1) := by decide +kernel
theorem dX6_doCue_15 : decode cX6_doCue 15 = .ok (.iconst 0, 1) := by decide +kernel
theorem dX6_doCue_16 : decode cX6_doCue 16 = .ok (.bipush 9, 2) := by decide +kernel
theorem dX6_doCue_18 : decode cX6_doCue 18 = .ok (.invokestatic 61, 3) := by decide +kernel
theorem dX6_doCue_21 : decode cX6_doCue 21 = .ok (.ifCond .ne 9, 3) := by decide +kernel
theorem dX6_doCue_24 : decode cX6_doCue 24 = .ok (.aload_n 0, 1) := by decide +kernel
theorem dX6_doCue_25 : decode cX6_doCue 25 = .ok (.iconst 2, 1) := by decide +kernel
theorem dX6_doCue_26 : decode cX6_doCue 26 = .ok (.invokevirtual 73, 3) := by decide +kernel
theorem dX6_doCue_29 : decode cX6_doCue 29 = .ok (.ireturn, 1) := by decide +kernel
theorem dX6_doCue_30 : decode cX6_doCue 30 = .ok (.aload_n 0, 1) := by decide +kernel
theorem dX6_doCue_31 : decode cX6_doCue 31 = .ok (.iload_n 1, 1) := by decide +kernel
theorem dX6_doCue_32 : decode cX6_doCue 32 = .ok (.iconst 0, 1) := by decide +kernel
theorem dX6_doCue_33 : decode cX6_doCue 33 = .ok (.invokevirtual 65, 3) := by decide +kernel
theorem dX6_doCue_36 : decode cX6_doCue 36 = .ok (.iconst 2, 1) := by decide +kernel
theorem dX6_doCue_37 : decode cX6_doCue 37 = .ok (.if_icmp .eq 16, 3) := by decide +kernel
theorem dX6_doCue_40 : decode cX6_doCue 40 = .ok (.aload_n 0, 1) := by decide +kernel
theorem dX6_doCue_41 : decode cX6_doCue 41 = .ok (.iconst 3, 1) := by decide +kernel
theorem dX6_doCue_42 : decode cX6_doCue 42 = .ok (.iconst 4, 1) := by decide +kernel
theorem dX6_doCue_43 : decode cX6_doCue 43 = .ok (.aload_n 0, 1) := by decide +kernel
theorem dX6_doCue_44 : decode cX6_doCue 44 = .ok (.iload_n 1, 1) := by decide +kernel
theorem dX6_doCue_45 : decode cX6_doCue 45 = .ok (.iconst 1, 1) := by decide +kernel
theorem dX6_doCue_46 : decode cX6_doCue 46 = .ok (.invokevirtual 65, 3) := by decide +kernel
theorem dX6_doCue_49 : decode cX6_doCue 49 = .ok (.invokevirtual 77, 3) := by decide +kernel
theorem dX6_doCue_52 : decode cX6_doCue 52 = .ok (.ireturn, 1) := by decide +kernel
theorem dX6_doCue_53 : decode cX6_doCue 53 = .ok (.aload_n 0, 1) := by decide +kernel
theorem dX6_doCue_54 : decode cX6_doCue 54 = .ok (.iload_n 1, 1) := by decide +kernel
theorem dX6_doCue_55 : decode cX6_doCue 55 = .ok (.iconst 4, 1) := by decide +kernel
theorem dX6_doCue_56 : decode cX6_doCue 56 = .ok (.invokevirtual 65, 3) := by decide +kernel
theorem dX6_doCue_59 : decode cX6_doCue 59 = .ok (.iconst 1, 1) := by decide +kernel
theorem dX6_doCue_60 : decode cX6_doCue 60 = .ok (.if_icmp .ne 17, 3) := by decide +kernel
theorem dX6_doCue_63 : decode cX6_doCue 63 = .ok (.aload_n 0, 1) := by decide +kernel
theorem dX6_doCue_64 : decode cX6_doCue 64 = .ok (.iconst 3, 1) := by decide +kernel
theorem dX6_doCue_65 : decode cX6_doCue 65 = .ok (.bipush 6, 2) := by decide +kernel
theorem dX6_doCue_67 : decode cX6_doCue 67 = .ok (.aload_n 0, 1) := by decide +kernel
theorem dX6_doCue_68 : decode cX6_doCue 68 = .ok (.iload_n 1, 1) := by decide +kernel
theorem dX6_doCue_69 : decode cX6_doCue 69 = .ok (.iconst 3, 1) := by decide +kernel
theorem dX6_doCue_70 : decode cX6_doCue 70 = .ok (.invokevirtual 65, 3) := by decide +kernel
theorem dX6_doCue_73 : decode cX6_doCue 73 = .ok (.invokevirtual 77, 3) := by decide +kernel
theorem dX6_doCue_76 : decode cX6_doCue 76 = .ok (.ireturn, 1) := by decide +kernel
theorem dX6_doCue_77 : decode cX6_doCue 77 = .ok (.aload_n 0, 1) := by decide +kernel
theorem dX6_doCue_78 : decode cX6_doCue 78 = .ok (.iload_n 1, 1) := by decide +kernel
theorem dX6_doCue_79 : decode cX6_doCue 79 = .ok (.iconst 5, 1) := by decide +kernel
theorem dX6_doCue_80 : decode cX6_doCue 80 = .ok (.invokevirtual 65, 3) := by decide +kernel
theorem dX6_doCue_83 : decode cX6_doCue 83 = .ok (.istore_n 3, 1) := by decide +kernel
theorem dX6_doCue_84 : decode cX6_doCue 84 = .ok (.iload_n 3, 1) := by decide +kernel
theorem dX6_doCue_85 : decode cX6_doCue 85 = .ok (.iload_n 2, 1) := by decide +kernel
theorem dX6_doCue_86 : decode cX6_doCue 86 = .ok (.if_icmp .ne 11, 3) := by decide +kernel
theorem dX6_doCue_89 : decode cX6_doCue 89 = .ok (.aload_n 0, 1) := by decide +kernel
theorem dX6_doCue_90 : decode cX6_doCue 90 = .ok (.iconst 3, 1) := by decide +kernel
theorem dX6_doCue_91 : decode cX6_doCue 91 = .ok (.iconst 3, 1) := by decide +kernel
theorem dX6_doCue_92 : decode cX6_doCue 92 = .ok (.iload_n 2, 1) := by decide +kernel
theorem dX6_doCue_93 : decode cX6_doCue 93 = .ok (.invokevirtual 77, 3) := by decide +kernel
theorem dX6_doCue_96 : decode cX6_doCue 96 = .ok (.ireturn, 1) := by decide +kernel
theorem dX6_doCue_97 : decode cX6_doCue 97 = .ok (.aload_n 0, 1) := by decide +kernel
theorem dX6_doCue_98 : decode cX6_doCue 98 = .ok (.iload_n 1, 1) := by decide +kernel
theorem dX6_doCue_99 : decode cX6_doCue 99 = .ok (.iconst 5, 1) := by decide +kernel
theorem dX6_doCue_100 : decode cX6_doCue 100 = .ok (.iload_n 2, 1) := by decide +kernel
theorem dX6_doCue_101 : decode cX6_doCue 101 = .ok (.invokevirtual 84, 3) := by decide +kernel
theorem dX6_doCue_104 : decode cX6_doCue 104 = .ok (.iload_n 3, 1) := by decide +kernel
theorem dX6_doCue_105 : decode cX6_doCue 105 = .ok (.ireturn, 1) := by decide +kernel
theorem dX6_cue_0 : decode cX6_cue 0 = .ok (.aload_n 0, 1) := by decide +kernel
theorem dX6_cue_1 : decode cX6_cue 1 = .ok (.invokevirtual 88, 3) := by decide +kernel
theorem dX6_cue_4 : decode cX6_cue 4 = .ok (.aload_n 0, 1) := by decide +kernel
theorem dX6_cue_5 : decode cX6_cue 5 = .ok (.aload_n 0, 1) := by decide +kernel
theorem dX6_cue_6 : decode cX6_cue 6 = .ok (.iload_n 1, 1) := by decide +kernel
theorem dX6_cue_7 : decode cX6_cue 7 = .ok (.iload_n 2, 1) := by decide +kernel
theorem dX6_cue_8 : decode cX6_cue 8 = .ok (.invokevirtual 103, 3) := by decide +kernel
theorem dX6_cue_11 : decode cX6_cue 11 = .ok (.invokevirtual 94, 3) := by decide +kernel
theorem dX6_cue_14 : decode cX6_cue 14 = .ok (.ireturn, 1) := by decide +kernel
theorem dX6_doSet_0 : decode cX6_doSet 0 = .ok (.aload_n 0, 1) := by decide +kernel
theorem dX6_doSet_1 : decode cX6_doSet 1 = .ok (.getfield 9, 3) := by decide +kernel
theorem dX6_doSet_4 : decode cX6_doSet 4 = .ok (.iconst 1, 1) := by decide +kernel
theorem dX6_doSet_5 : decode cX6_doSet 5 = .ok (.iaload, 1) := by decide +kernel
theorem dX6_doSet_6 : decode cX6_doSet 6 = .ok (.istore_n 2, 1) := by decide +kernel
theorem dX6_doSet_7 : decode cX6_doSet 7 = .ok (.iload_n 1, 1) := by decide +kernel
theorem dX6_doSet_8 : decode cX6_doSet 8 = .ok (.invokestatic 106, 3) := by decide +kernel
theorem dX6_doSet_11 : decode cX6_doSet 11 = .ok (.ifCond .ne 9, 3) := by decide +kernel
theorem dX6_doSet_14 : decode cX6_doSet 14 = .ok (.aload_n 0, 1) := by decide +kernel
theorem dX6_doSet_15 : decode cX6_doSet 15 = .ok (.iconst 1, 1) := by decide +kernel
theorem dX6_doSet_16 : decode cX6_doSet 16 = .ok (.invokevirtual 73, 3) := by decide +kernel
theorem dX6_doSet_19 : decode cX6_doSet 19 = .ok (.ireturn, 1) := by decide +kernel
theorem dX6_doSet_20 : decode cX6_doSet 20 = .ok (.iload_n 2, 1) := by decide +kernel
theorem dX6_doSet_21 : decode cX6_doSet 21 = .ok (.iload_n 1, 1) := by decide +kernel
theorem dX6_doSet_22 : decode cX6_doSet 22 = .ok (.if_icmp .ne 11, 3) := by decide +kernel
theorem dX6_doSet_25 : decode cX6_doSet 25 = .ok (.aload_n 0, 1) := by decide +kernel
theorem dX6_doSet_26 : decode cX6_doSet 26 = .ok (.iconst 2, 1) := by decide +kernel
theorem dX6_doSet_27 : decode cX6_doSet 27 = .ok (.iconst 3, 1) := by decide +kernel
theorem dX6_doSet_28 : decode cX6_doSet 28 = .ok (.iload_n 1, 1) := by decide +kernel
theorem dX6_doSet_29 : decode cX6_doSet 29 = .ok (.invokevirtual 77, 3) := by decide +kernel
theorem dX6_doSet_32 : decode cX6_doSet 32 = .ok (.ireturn, 1) := by decide +kernel
theorem dX6_doSet_33 : decode cX6_doSet 33 = .ok (.aload_n 0, 1) := by decide +kernel
theorem dX6_doSet_34 : decode cX6_doSet 34 = .ok (.getfield 9, 3) := by decide +kernel
theorem dX6_doSet_37 : decode cX6_doSet 37 = .ok (.iconst 1, 1) := by decide +kernel
theorem dX6_doSet_38 : decode cX6_doSet 38 = .ok (.iload_n 1, 1) := by decide +kernel
theorem dX6_doSet_39 : decode cX6_doSet 39 = .ok (.iastore, 1) := by decide +kernel
theorem dX6_doSet_40 : decode cX6_doSet 40 = .ok (.iload_n 2, 1) := by decide +kernel
theorem dX6_doSet_41 : decode cX6_doSet 41 = .ok (.ireturn, 1) := by decide +kernel
theorem dX6_set_0 : decode cX6_set 0 = .ok (.aload_n 0, 1) := by decide +kernel
theorem dX6_set_1 : decode cX6_set 1 = .ok (.invokevirtual 88, 3) := by decide +kernel
theorem dX6_set_4 : decode cX6_set 4 = .ok (.aload_n 0, 1) := by decide +kernel
theorem dX6_set_5 : decode cX6_set 5 = .ok (.aload_n 0, 1) := by decide +kernel
theorem dX6_set_6 : decode cX6_set 6 = .ok (.iload_n 1, 1) := by decide +kernel
theorem dX6_set_7 : decode cX6_set 7 = .ok (.invokevirtual 109, 3) := by decide +kernel
theorem dX6_set_10 : decode cX6_set 10 = .ok (.invokevirtual 94, 3) := by decide +kernel
theorem dX6_set_13 : decode cX6_set 13 = .ok (.ireturn, 1) := by decide +kernel
theorem dX6_strengthOn_0 : decode cX6_strengthOn 0 = .ok (.iload_n 1, 1) := by decide +kernel
theorem dX6_strengthOn_1 : decode cX6_strengthOn 1 = .ok (.istore_n 3, 1) := by decide +kernel
theorem dX6_strengthOn_2 : decode cX6_strengthOn 2 = .ok (.iconst 0, 1) := by decide +kernel
theorem dX6_strengthOn_3 : decode cX6_strengthOn 3 = .ok (.istore 4, 2) := by decide +kernel
theorem dX6_strengthOn_5 : decode cX6_strengthOn 5 = .ok (.iload 4, 2) := by decide +kernel
theorem dX6_strengthOn_7 : decode cX6_strengthOn 7 = .ok (.iload_n 2, 1) := by decide +kernel
theorem dX6_strengthOn_8 : decode cX6_strengthOn 8 = .ok (.if_icmp .ge 27, 3) := by decide +kernel
theorem dX6_strengthOn_11 : decode cX6_strengthOn 11 = .ok (.iload_n 3, 1) := by decide +kernel
theorem dX6_strengthOn_12 : decode cX6_strengthOn 12 = .ok (.aload_n 0, 1) := by decide +kernel
theorem dX6_strengthOn_13 : decode cX6_strengthOn 13 = .ok (.iconst 3, 1) := by decide +kernel
theorem dX6_strengthOn_14 : decode cX6_strengthOn 14 = .ok (.iload 4, 2) := by decide +kernel
theorem dX6_strengthOn_16 : decode cX6_strengthOn 16 = .ok (.invokevirtual 81, 3) := by decide +kernel
theorem dX6_strengthOn_19 : decode cX6_strengthOn 19 = .ok (.ifCond .le 7, 3) := by decide +kernel
theorem dX6_strengthOn_22 : decode cX6_strengthOn 22 = .ok (.iconst 2, 1) := by decide +kernel
theorem dX6_strengthOn_23 : decode cX6_strengthOn 23 = .ok (.goto 4, 3) := by decide +kernel
theorem dX6_strengthOn_26 : decode cX6_strengthOn 26 = .ok (.iconst 1, 1) := by decide +kernel
theorem dX6_strengthOn_27 : decode cX6_strengthOn 27 = .ok (.isub, 1) := by decide +kernel
theorem dX6_strengthOn_28 : decode cX6_strengthOn 28 = .ok (.istore_n 3, 1) := by decide +kernel
theorem dX6_strengthOn_29 : decode cX6_strengthOn 29 = .ok (.iinc 4 1, 3) := by decide +kernel
theorem dX6_strengthOn_32 : decode cX6_strengthOn 32 = .ok (.goto (-27), 3) := by decide +kernel
theorem dX6_strengthOn_35 : decode cX6_strengthOn 35 = .ok (.iconst 0, 1) := by decide +kernel
theorem dX6_strengthOn_36 : decode cX6_strengthOn 36 = .ok (.iload_n 3, 1) := by decide +kernel
theorem dX6_strengthOn_37 : decode cX6_strengthOn 37 = .ok (.invokestatic 112, 3) := by decide +kernel
theorem dX6_strengthOn_40 : decode cX6_strengthOn 40 = .ok (.ireturn, 1) := by decide +kernel
theorem dX6_shakes_0 : decode cX6_shakes 0 = .ok (.aload_n 0, 1) := by decide +kernel
theorem dX6_shakes_1 : decode cX6_shakes 1 = .ok (.iload_n 1, 1) := by decide +kernel
theorem dX6_shakes_2 : decode cX6_shakes 2 = .ok (.iconst 2, 1) := by decide +kernel
theorem dX6_shakes_3 : decode cX6_shakes 3 = .ok (.invokevirtual 65, 3) := by decide +kernel
theorem dX6_shakes_6 : decode cX6_shakes 6 = .ok (.istore_n 3, 1) := by decide +kernel
theorem dX6_shakes_7 : decode cX6_shakes 7 = .ok (.aload_n 0, 1) := by decide +kernel
theorem dX6_shakes_8 : decode cX6_shakes 8 = .ok (.iload_n 1, 1) := by decide +kernel
theorem dX6_shakes_9 : decode cX6_shakes 9 = .ok (.iconst 4, 1) := by decide +kernel
theorem dX6_shakes_10 : decode cX6_shakes 10 = .ok (.invokevirtual 65, 3) := by decide +kernel
theorem dX6_shakes_13 : decode cX6_shakes 13 = .ok (.iconst 1, 1) := by decide +kernel
theorem dX6_shakes_14 : decode cX6_shakes 14 = .ok (.if_icmp .ne 5, 3) := by decide +kernel
theorem dX6_shakes_17 : decode cX6_shakes 17 = .ok (.iconst 0, 1) := by decide +kernel
theorem dX6_shakes_18 : decode cX6_shakes 18 = .ok (.ireturn, 1) := by decide +kernel
theorem dX6_shakes_19 : decode cX6_shakes 19 = .ok (.iload_n 2, 1) := by decide +kernel
theorem dX6_shakes_20 : decode cX6_shakes 20 = .ok (.iload_n 3, 1) := by decide +kernel
theorem dX6_shakes_21 : decode cX6_shakes 21 = .ok (.if_icmp .lt 54, 3) := by decide +kernel
theorem dX6_shakes_24 : decode cX6_shakes 24 = .ok (.aload_n 0, 1) := by decide +kernel
theorem dX6_shakes_25 : decode cX6_shakes 25 = .ok (.iload_n 1, 1) := by decide +kernel
theorem dX6_shakes_26 : decode cX6_shakes 26 = .ok (.iconst 3, 1) := by decide +kernel
theorem dX6_shakes_27 : decode cX6_shakes 27 = .ok (.aload_n 0, 1) := by decide +kernel
theorem dX6_shakes_28 : decode cX6_shakes 28 = .ok (.iload_n 1, 1) := by decide +kernel
theorem dX6_shakes_29 : decode cX6_shakes 29 = .ok (.iconst 3, 1) := by decide +kernel
theorem dX6_shakes_30 : decode cX6_shakes 30 = .ok (.invokevirtual 65, 3) := by decide +kernel
theorem dX6_shakes_33 : decode cX6_shakes 33 = .ok (.iconst 1, 1) := by decide +kernel
theorem dX6_shakes_34 : decode cX6_shakes 34 = .ok (.iadd, 1) := by decide +kernel
theorem dX6_shakes_35 : decode cX6_shakes 35 = .ok (.invokevirtual 84, 3) := by decide +kernel
theorem dX6_shakes_38 : decode cX6_shakes 38 = .ok (.aload_n 0, 1) := by decide +kernel
theorem dX6_shakes_39 : decode cX6_shakes 39 = .ok (.iload_n 1, 1) := by decide +kernel
theorem dX6_shakes_40 : decode cX6_shakes 40 = .ok (.iconst 2, 1) := by decide +kernel
theorem dX6_shakes_41 : decode cX6_shakes 41 = .ok (.iconst 1, 1) := by decide +kernel
theorem dX6_shakes_42 : decode cX6_shakes 42 = .ok (.iload_n 3, 1) := by decide +kernel
theorem dX6_shakes_43 : decode cX6_shakes 43 = .ok (.iconst 1, 1) := by decide +kernel
theorem dX6_shakes_44 : decode cX6_shakes 44 = .ok (.isub, 1) := by decide +kernel
theorem dX6_shakes_45 : decode cX6_shakes 45 = .ok (.invokestatic 112, 3) := by decide +kernel
theorem dX6_shakes_48 : decode cX6_shakes 48 = .ok (.invokevirtual 84, 3) := by decide +kernel
theorem dX6_shakes_51 : decode cX6_shakes 51 = .ok (.aload_n 0, 1) := by decide +kernel
theorem dX6_shakes_52 : decode cX6_shakes 52 = .ok (.iload_n 1, 1) := by decide +kernel
theorem dX6_shakes_53 : decode cX6_shakes 53 = .ok (.iconst 4, 1) := by decide +kernel
theorem dX6_shakes_54 : decode cX6_shakes 54 = .ok (.aload_n 0, 1) := by decide +kernel
theorem dX6_shakes_55 : decode cX6_shakes 55 = .ok (.iload_n 1, 1) := by decide +kernel
theorem dX6_shakes_56 : decode cX6_shakes 56 = .ok (.iconst 3, 1) := by decide +kernel
theorem dX6_shakes_57 : decode cX6_shakes 57 = .ok (.invokevirtual 65, 3) := by decide +kernel
theorem dX6_shakes_60 : decode cX6_shakes 60 = .ok (.iconst 3, 1) := by decide +kernel
theorem dX6_shakes_61 : decode cX6_shakes 61 = .ok (.if_icmp .ne 7, 3) := by decide +kernel
theorem dX6_shakes_64 : decode cX6_shakes 64 = .ok (.iconst 1, 1) := by decide +kernel
theorem dX6_shakes_65 : decode cX6_shakes 65 = .ok (.goto 4, 3) := by decide +kernel
theorem dX6_shakes_68 : decode cX6_shakes 68 = .ok (.iconst 0, 1) := by decide +kernel
theorem dX6_shakes_69 : decode cX6_shakes 69 = .ok (.invokevirtual 84, 3) := by decide +kernel
theorem dX6_shakes_72 : decode cX6_shakes 72 = .ok (.goto 26, 3) := by decide +kernel
theorem dX6_shakes_75 : decode cX6_shakes 75 = .ok (.iconst 2, 1) := by decide +kernel
theorem dX6_shakes_76 : decode cX6_shakes 76 = .ok (.iload_n 2, 1) := by decide +kernel
theorem dX6_shakes_77 : decode cX6_shakes 77 = .ok (.imul, 1) := by decide +kernel
theorem dX6_shakes_78 : decode cX6_shakes 78 = .ok (.iload_n 3, 1) := by decide +kernel
theorem dX6_shakes_79 : decode cX6_shakes 79 = .ok (.if_icmp .lt 19, 3) := by decide +kernel
theorem dX6_shakes_82 : decode cX6_shakes 82 = .ok (.aload_n 0, 1) := by decide +kernel
theorem dX6_shakes_83 : decode cX6_shakes 83 = .ok (.iload_n 1, 1) := by decide +kernel
theorem dX6_shakes_84 : decode cX6_shakes 84 = .ok (.bipush 6, 2) := by decide +kernel
theorem dX6_shakes_86 : decode cX6_shakes 86 = .ok (.aload_n 0, 1) := by decide +kernel
theorem dX6_shakes_87 : decode cX6_shakes 87 = .ok (.iload_n 1, 1) := by decide +kernel
theorem dX6_shakes_88 : decode cX6_shakes 88 = .ok (.bipush 6, 2) := by decide +kernel
theorem dX6_shakes_90 : decode cX6_shakes 90 = .ok (.invokevirtual 65, 3) := by decide +kernel
theorem dX6_shakes_93 : decode cX6_shakes 93 = .ok (.iconst 1, 1) := by decide +kernel
theorem dX6_shakes_94 : decode cX6_shakes 94 = .ok (.iadd, 1) := by decide +kernel
theorem dX6_shakes_95 : decode cX6_shakes 95 = .ok (.invokevirtual 84, 3) := by decide +kernel
theorem dX6_shakes_98 : decode cX6_shakes 98 = .ok (.aload_n 0, 1) := by decide +kernel
theorem dX6_shakes_99 : decode cX6_shakes 99 = .ok (.iload_n 1, 1) := by decide +kernel
theorem dX6_shakes_100 : decode cX6_shakes 100 = .ok (.iconst 4, 1) := by decide +kernel
theorem dX6_shakes_101 : decode cX6_shakes 101 = .ok (.invokevirtual 65, 3) := by decide +kernel
theorem dX6_shakes_104 : decode cX6_shakes 104 = .ok (.iconst 1, 1) := by decide +kernel
theorem dX6_shakes_105 : decode cX6_shakes 105 = .ok (.if_icmp .ne 7, 3) := by decide +kernel
theorem dX6_shakes_108 : decode cX6_shakes 108 = .ok (.iconst 1, 1) := by decide +kernel
theorem dX6_shakes_109 : decode cX6_shakes 109 = .ok (.goto 4, 3) := by decide +kernel
theorem dX6_shakes_112 : decode cX6_shakes 112 = .ok (.iconst 0, 1) := by decide +kernel
theorem dX6_shakes_113 : decode cX6_shakes 113 = .ok (.ireturn, 1) := by decide +kernel
theorem dX6_swings_0 : decode cX6_swings 0 = .ok (.aload_n 0, 1) := by decide +kernel
theorem dX6_swings_1 : decode cX6_swings 1 = .ok (.iload_n 1, 1) := by decide +kernel
theorem dX6_swings_2 : decode cX6_swings 2 = .ok (.iconst 4, 1) := by decide +kernel
theorem dX6_swings_3 : decode cX6_swings 3 = .ok (.invokevirtual 65, 3) := by decide +kernel
theorem dX6_swings_6 : decode cX6_swings 6 = .ok (.iconst 1, 1) := by decide +kernel
theorem dX6_swings_7 : decode cX6_swings 7 = .ok (.if_icmp .ne 5, 3) := by decide +kernel
theorem dX6_swings_10 : decode cX6_swings 10 = .ok (.iconst 0, 1) := by decide +kernel
theorem dX6_swings_11 : decode cX6_swings 11 = .ok (.ireturn, 1) := by decide +kernel
theorem dX6_swings_12 : decode cX6_swings 12 = .ok (.aload_n 0, 1) := by decide +kernel
theorem dX6_swings_13 : decode cX6_swings 13 = .ok (.iload_n 1, 1) := by decide +kernel
theorem dX6_swings_14 : decode cX6_swings 14 = .ok (.iconst 3, 1) := by decide +kernel
theorem dX6_swings_15 : decode cX6_swings 15 = .ok (.invokevirtual 65, 3) := by decide +kernel
theorem dX6_swings_18 : decode cX6_swings 18 = .ok (.istore 4, 2) := by decide +kernel
theorem dX6_swings_20 : decode cX6_swings 20 = .ok (.iload_n 2, 1) := by decide +kernel
theorem dX6_swings_21 : decode cX6_swings 21 = .ok (.ifCond .le 19, 3) := by decide +kernel
theorem dX6_swings_24 : decode cX6_swings 24 = .ok (.iload 4, 2) := by decide +kernel
theorem dX6_swings_26 : decode cX6_swings 26 = .ok (.iload_n 2, 1) := by decide +kernel
theorem dX6_swings_27 : decode cX6_swings 27 = .ok (.iadd, 1) := by decide +kernel
theorem dX6_swings_28 : decode cX6_swings 28 = .ok (.aload_n 0, 1) := by decide +kernel
theorem dX6_swings_29 : decode cX6_swings 29 = .ok (.iload_n 1, 1) := by decide +kernel
theorem dX6_swings_30 : decode cX6_swings 30 = .ok (.iconst 2, 1) := by decide +kernel
theorem dX6_swings_31 : decode cX6_swings 31 = .ok (.invokevirtual 65, 3) := by decide +kernel
theorem dX6_swings_34 : decode cX6_swings 34 = .ok (.iload_n 2, 1) := by decide +kernel
theorem dX6_swings_35 : decode cX6_swings 35 = .ok (.irem, 1) := by decide +kernel
theorem dX6_swings_36 : decode cX6_swings 36 = .ok (.iadd, 1) := by decide +kernel
theorem dX6_swings_37 : decode cX6_swings 37 = .ok (.goto 11, 3) := by decide +kernel
theorem dX6_swings_40 : decode cX6_swings 40 = .ok (.iconst 0, 1) := by decide +kernel
theorem dX6_swings_41 : decode cX6_swings 41 = .ok (.iload 4, 2) := by decide +kernel
theorem dX6_swings_43 : decode cX6_swings 43 = .ok (.iconst 1, 1) := by decide +kernel
theorem dX6_swings_44 : decode cX6_swings 44 = .ok (.isub, 1) := by decide +kernel
theorem dX6_swings_45 : decode cX6_swings 45 = .ok (.invokestatic 112, 3) := by decide +kernel
theorem dX6_swings_48 : decode cX6_swings 48 = .ok (.istore 4, 2) := by decide +kernel
theorem dX6_swings_50 : decode cX6_swings 50 = .ok (.aload_n 0, 1) := by decide +kernel
theorem dX6_swings_51 : decode cX6_swings 51 = .ok (.iload_n 1, 1) := by decide +kernel
theorem dX6_swings_52 : decode cX6_swings 52 = .ok (.iconst 5, 1) := by decide +kernel
theorem dX6_swings_53 : decode cX6_swings 53 = .ok (.invokevirtual 65, 3) := by decide +kernel
theorem dX6_swings_56 : decode cX6_swings 56 = .ok (.iload_n 3, 1) := by decide +kernel
theorem dX6_swings_57 : decode cX6_swings 57 = .ok (.if_icmp .ne 10, 3) := by decide +kernel
theorem dX6_swings_60 : decode cX6_swings 60 = .ok (.iload 4, 2) := by decide +kernel
theorem dX6_swings_62 : decode cX6_swings 62 = .ok (.iconst 2, 1) := by decide +kernel
theorem dX6_swings_63 : decode cX6_swings 63 = .ok (.idiv, 1) := by decide +kernel
theorem dX6_swings_64 : decode cX6_swings 64 = .ok (.goto 5, 3) := by decide +kernel
theorem dX6_swings_67 : decode cX6_swings 67 = .ok (.iload 4, 2) := by decide +kernel
theorem dX6_swings_69 : decode cX6_swings 69 = .ok (.istore 4, 2) := by decide +kernel
theorem dX6_swings_71 : decode cX6_swings 71 = .ok (.aload_n 0, 1) := by decide +kernel
theorem dX6_swings_72 : decode cX6_swings 72 = .ok (.iload_n 1, 1) := by decide +kernel
theorem dX6_swings_73 : decode cX6_swings 73 = .ok (.iconst 3, 1) := by decide +kernel
theorem dX6_swings_74 : decode cX6_swings 74 = .ok (.iload 4, 2) := by decide +kernel
theorem dX6_swings_76 : decode cX6_swings 76 = .ok (.invokevirtual 84, 3) := by decide +kernel
theorem dX6_swings_79 : decode cX6_swings 79 = .ok (.aload_n 0, 1) := by decide +kernel
theorem dX6_swings_80 : decode cX6_swings 80 = .ok (.iload_n 1, 1) := by decide +kernel
theorem dX6_swings_81 : decode cX6_swings 81 = .ok (.iconst 4, 1) := by decide +kernel
theorem dX6_swings_82 : decode cX6_swings 82 = .ok (.iload 4, 2) := by decide +kernel
theorem dX6_swings_84 : decode cX6_swings 84 = .ok (.bipush 20, 2) := by decide +kernel
theorem dX6_swings_86 : decode cX6_swings 86 = .ok (.if_icmp .le 7, 3) := by decide +kernel
theorem dX6_swings_89 : decode cX6_swings 89 = .ok (.iconst 1, 1) := by decide +kernel
theorem dX6_swings_90 : decode cX6_swings 90 = .ok (.goto 4, 3) := by decide +kernel
theorem dX6_swings_93 : decode cX6_swings 93 = .ok (.iconst 0, 1) := by decide +kernel
theorem dX6_swings_94 : decode cX6_swings 94 = .ok (.invokevirtual 84, 3) := by decide +kernel
theorem dX6_swings_97 : decode cX6_swings 97 = .ok (.iload 4, 2) := by decide +kernel
theorem dX6_swings_99 : decode cX6_swings 99 = .ok (.bipush 20, 2) := by decide +kernel
theorem dX6_swings_101 : decode cX6_swings 101 = .ok (.if_icmp .le 7, 3) := by decide +kernel
theorem dX6_swings_104 : decode cX6_swings 104 = .ok (.iconst 1, 1) := by decide +kernel
theorem dX6_swings_105 : decode cX6_swings 105 = .ok (.goto 4, 3) := by decide +kernel
theorem dX6_swings_108 : decode cX6_swings 108 = .ok (.iconst 0, 1) := by decide +kernel
theorem dX6_swings_109 : decode cX6_swings 109 = .ok (.ireturn, 1) := by decide +kernel
theorem dX6_marks_0 : decode cX6_marks 0 = .ok (.aload_n 0, 1) := by decide +kernel
theorem dX6_marks_1 : decode cX6_marks 1 = .ok (.iload_n 1, 1) := by decide +kernel
theorem dX6_marks_2 : decode cX6_marks 2 = .ok (.iconst 2, 1) := by decide +kernel
theorem dX6_marks_3 : decode cX6_marks 3 = .ok (.invokevirtual 65, 3) := by decide +kernel
theorem dX6_marks_6 : decode cX6_marks 6 = .ok (.istore 4, 2) := by decide +kernel
theorem dX6_marks_8 : decode cX6_marks 8 = .ok (.iload_n 3, 1) := by decide +kernel
theorem dX6_marks_9 : decode cX6_marks 9 = .ok (.ifCond .eq 7, 3) := by decide +kernel
theorem dX6_marks_12 : decode cX6_marks 12 = .ok (.iconst 0, 1) := by decide +kernel
theorem dX6_marks_13 : decode cX6_marks 13 = .ok (.goto 16, 3) := by decide +kernel
theorem dX6_marks_16 : decode cX6_marks 16 = .ok (.iconst 0, 1) := by decide +kernel
theorem dX6_marks_17 : decode cX6_marks 17 = .ok (.iconst 5, 1) := by decide +kernel
theorem dX6_marks_18 : decode cX6_marks 18 = .ok (.iload 4, 2) := by decide +kernel
theorem dX6_marks_20 : decode cX6_marks 20 = .ok (.iload_n 2, 1) := by decide +kernel
theorem dX6_marks_21 : decode cX6_marks 21 = .ok (.isub, 1) := by decide +kernel
theorem dX6_marks_22 : decode cX6_marks 22 = .ok (.invokestatic 117, 3) := by decide +kernel
theorem dX6_marks_25 : decode cX6_marks 25 = .ok (.isub, 1) := by decide +kernel
theorem dX6_marks_26 : decode cX6_marks 26 = .ok (.invokestatic 112, 3) := by decide +kernel
theorem dX6_marks_29 : decode cX6_marks 29 = .ok (.istore 5, 2) := by decide +kernel
theorem dX6_marks_31 : decode cX6_marks 31 = .ok (.aload_n 0, 1) := by decide +kernel
theorem dX6_marks_32 : decode cX6_marks 32 = .ok (.iload_n 1, 1) := by decide +kernel
theorem dX6_marks_33 : decode cX6_marks 33 = .ok (.iconst 2, 1) := by decide +kernel
theorem dX6_marks_34 : decode cX6_marks 34 = .ok (.iload_n 3, 1) := by decide +kernel
theorem dX6_marks_35 : decode cX6_marks 35 = .ok (.ifCond .eq 14, 3) := by decide +kernel
theorem dX6_marks_38 : decode cX6_marks 38 = .ok (.iconst 0, 1) := by decide +kernel
theorem dX6_marks_39 : decode cX6_marks 39 = .ok (.iload 4, 2) := by decide +kernel
theorem dX6_marks_41 : decode cX6_marks 41 = .ok (.iconst 1, 1) := by decide +kernel
theorem dX6_marks_42 : decode cX6_marks 42 = .ok (.isub, 1) := by decide +kernel
theorem dX6_marks_43 : decode cX6_marks 43 = .ok (.invokestatic 112, 3) := by decide +kernel
theorem dX6_marks_46 : decode cX6_marks 46 = .ok (.goto 5, 3) := by decide +kernel
theorem dX6_marks_49 : decode cX6_marks 49 = .ok (.iload 4, 2) := by decide +kernel
theorem dX6_marks_51 : decode cX6_marks 51 = .ok (.invokevirtual 84, 3) := by decide +kernel
theorem dX6_marks_54 : decode cX6_marks 54 = .ok (.aload_n 0, 1) := by decide +kernel
theorem dX6_marks_55 : decode cX6_marks 55 = .ok (.iload_n 1, 1) := by decide +kernel
theorem dX6_marks_56 : decode cX6_marks 56 = .ok (.bipush 6, 2) := by decide +kernel
theorem dX6_marks_58 : decode cX6_marks 58 = .ok (.aload_n 0, 1) := by decide +kernel
theorem dX6_marks_59 : decode cX6_marks 59 = .ok (.iload_n 1, 1) := by decide +kernel
theorem dX6_marks_60 : decode cX6_marks 60 = .ok (.bipush 6, 2) := by decide +kernel
theorem dX6_marks_62 : decode cX6_marks 62 = .ok (.invokevirtual 65, 3) := by decide +kernel
theorem dX6_marks_65 : decode cX6_marks 65 = .ok (.iload 5, 2) := by decide +kernel
theorem dX6_marks_67 : decode cX6_marks 67 = .ok (.iadd, 1) := by decide +kernel
theorem dX6_marks_68 : decode cX6_marks 68 = .ok (.invokevirtual 84, 3) := by decide +kernel
theorem dX6_marks_71 : decode cX6_marks 71 = .ok (.iload 5, 2) := by decide +kernel
theorem dX6_marks_73 : decode cX6_marks 73 = .ok (.ireturn, 1) := by decide +kernel
theorem dX6_shocks_0 : decode cX6_shocks 0 = .ok (.iconst 0, 1) := by decide +kernel
theorem dX6_shocks_1 : decode cX6_shocks 1 = .ok (.istore_n 2, 1) := by decide +kernel
theorem dX6_shocks_2 : decode cX6_shocks 2 = .ok (.iconst 0, 1) := by decide +kernel
theorem dX6_shocks_3 : decode cX6_shocks 3 = .ok (.istore_n 3, 1) := by decide +kernel
theorem dX6_shocks_4 : decode cX6_shocks 4 = .ok (.aload_n 0, 1) := by decide +kernel
theorem dX6_shocks_5 : decode cX6_shocks 5 = .ok (.iconst 0, 1) := by decide +kernel
theorem dX6_shocks_6 : decode cX6_shocks 6 = .ok (.putfield 120, 3) := by decide +kernel
theorem dX6_shocks_9 : decode cX6_shocks 9 = .ok (.iconst 1, 1) := by decide +kernel
theorem dX6_shocks_10 : decode cX6_shocks 10 = .ok (.istore 4, 2) := by decide +kernel
theorem dX6_shocks_12 : decode cX6_shocks 12 = .ok (.iload 4, 2) := by decide +kernel
theorem dX6_shocks_14 : decode cX6_shocks 14 = .ok (.iconst 3, 1) := by decide +kernel
theorem dX6_shocks_15 : decode cX6_shocks 15 = .ok (.if_icmp .gt 169, 3) := by decide +kernel
theorem dX6_shocks_18 : decode cX6_shocks 18 = .ok (.iconst 0, 1) := by decide +kernel
theorem dX6_shocks_19 : decode cX6_shocks 19 = .ok (.istore 5, 2) := by decide +kernel
theorem dX6_shocks_21 : decode cX6_shocks 21 = .ok (.iload 5, 2) := by decide +kernel
theorem dX6_shocks_23 : decode cX6_shocks 23 = .ok (.aload_n 0, 1) := by decide +kernel
theorem dX6_shocks_24 : decode cX6_shocks 24 = .ok (.getfield 9, 3) := by decide +kernel
theorem dX6_shocks_27 : decode cX6_shocks 27 = .ok (.iconst 0, 1) := by decide +kernel
theorem dX6_shocks_28 : decode cX6_shocks 28 = .ok (.iaload, 1) := by decide +kernel
theorem dX6_shocks_29 : decode cX6_shocks 29 = .ok (.if_icmp .ge 149, 3) := by decide +kernel
theorem dX6_shocks_32 : decode cX6_shocks 32 = .ok (.aload_n 0, 1) := by decide +kernel
theorem dX6_shocks_33 : decode cX6_shocks 33 = .ok (.iload 5, 2) := by decide +kernel
theorem dX6_shocks_35 : decode cX6_shocks 35 = .ok (.iconst 1, 1) := by decide +kernel
theorem dX6_shocks_36 : decode cX6_shocks 36 = .ok (.invokevirtual 65, 3) := by decide +kernel
theorem dX6_shocks_39 : decode cX6_shocks 39 = .ok (.istore 6, 2) := by decide +kernel
theorem dX6_shocks_41 : decode cX6_shocks 41 = .ok (.aload_n 0, 1) := by decide +kernel
theorem dX6_shocks_42 : decode cX6_shocks 42 = .ok (.iload_n 1, 1) := by decide +kernel
theorem dX6_shocks_43 : decode cX6_shocks 43 = .ok (.iload 6, 2) := by decide +kernel
theorem dX6_shocks_45 : decode cX6_shocks 45 = .ok (.invokevirtual 123, 3) := by decide +kernel
theorem dX6_shocks_48 : decode cX6_shocks 48 = .ok (.istore 7, 2) := by decide +kernel
theorem dX6_shocks_50 : decode cX6_shocks 50 = .ok (.aload_n 0, 1) := by decide +kernel
theorem dX6_shocks_51 : decode cX6_shocks 51 = .ok (.iload 5, 2) := by decide +kernel
theorem dX6_shocks_53 : decode cX6_shocks 53 = .ok (.iconst 0, 1) := by decide +kernel
theorem dX6_shocks_54 : decode cX6_shocks 54 = .ok (.invokevirtual 65, 3) := by decide +kernel
theorem dX6_shocks_57 : decode cX6_shocks 57 = .ok (.iload 4, 2) := by decide +kernel
theorem dX6_shocks_59 : decode cX6_shocks 59 = .ok (.if_icmp .ne 75, 3) := by decide +kernel
theorem dX6_shocks_62 : decode cX6_shocks 62 = .ok (.iload 4, 2) := by decide +kernel
theorem dX6_shocks_64 : decode cX6_shocks 64 = .ok (.iconst 3, 1) := by decide +kernel
theorem dX6_shocks_65 : decode cX6_shocks 65 = .ok (.if_icmp .ge 69, 3) := by decide +kernel
theorem dX6_shocks_68 : decode cX6_shocks 68 = .ok (.iload 4, 2) := by decide +kernel
theorem dX6_shocks_70 : decode cX6_shocks 70 = .ok (.iconst 1, 1) := by decide +kernel
theorem dX6_shocks_71 : decode cX6_shocks 71 = .ok (.if_icmp .ne 14, 3) := by decide +kernel
theorem dX6_shocks_74 : decode cX6_shocks 74 = .ok (.aload_n 0, 1) := by decide +kernel
theorem dX6_shocks_75 : decode cX6_shocks 75 = .ok (.iload 5, 2) := by decide +kernel
theorem dX6_shocks_77 : decode cX6_shocks 77 = .ok (.iload 7, 2) := by decide +kernel
theorem dX6_shocks_79 : decode cX6_shocks 79 = .ok (.invokevirtual 126, 3) := by decide +kernel
theorem dX6_shocks_82 : decode cX6_shocks 82 = .ok (.goto 12, 3) := by decide +kernel
theorem dX6_shocks_85 : decode cX6_shocks 85 = .ok (.aload_n 0, 1) := by decide +kernel
theorem dX6_shocks_86 : decode cX6_shocks 86 = .ok (.iload 5, 2) := by decide +kernel
theorem dX6_shocks_88 : decode cX6_shocks 88 = .ok (.iload 7, 2) := by decide +kernel
theorem dX6_shocks_90 : decode cX6_shocks 90 = .ok (.iload_n 1, 1) := by decide +kernel
theorem dX6_shocks_91 : decode cX6_shocks 91 = .ok (.invokevirtual 130, 3) := by decide +kernel
theorem dX6_shocks_94 : decode cX6_shocks 94 = .ok (.istore 8, 2) := by decide +kernel
theorem dX6_shocks_96 : decode cX6_shocks 96 = .ok (.aload_n 0, 1) := by decide +kernel
theorem dX6_shocks_97 : decode cX6_shocks 97 = .ok (.dup, 1) := by decide +kernel
theorem dX6_shocks_98 : decode cX6_shocks 98 = .ok (.getfield 120, 3) := by decide +kernel
theorem dX6_shocks_101 : decode cX6_shocks 101 = .ok (.iload 8, 2) := by decide +kernel
theorem dX6_shocks_103 : decode cX6_shocks 103 = .ok (.ifCond .eq 7, 3) := by decide +kernel
theorem dX6_shocks_106 : decode cX6_shocks 106 = .ok (.iconst 1, 1) := by decide +kernel
theorem dX6_shocks_107 : decode cX6_shocks 107 = .ok (.goto 4, 3) := by decide +kernel
theorem dX6_shocks_110 : decode cX6_shocks 110 = .ok (.iconst 0, 1) := by decide +kernel
theorem dX6_shocks_111 : decode cX6_shocks 111 = .ok (.iadd, 1) := by decide +kernel
theorem dX6_shocks_112 : decode cX6_shocks 112 = .ok (.putfield 120, 3) := by decide +kernel
theorem dX6_shocks_115 : decode cX6_shocks 115 = .ok (.iload_n 2, 1) := by decide +kernel
theorem dX6_shocks_116 : decode cX6_shocks 116 = .ok (.iload 8, 2) := by decide +kernel
theorem dX6_shocks_118 : decode cX6_shocks 118 = .ok (.ifCond .eq 10, 3) := by decide +kernel
theorem dX6_shocks_121 : decode cX6_shocks 121 = .ok (.iconst 1, 1) := by decide +kernel
theorem dX6_shocks_122 : decode cX6_shocks 122 = .ok (.iload 6, 2) := by decide +kernel
theorem dX6_shocks_124 : decode cX6_shocks 124 = .ok (.ishl, 1) := by decide +kernel
theorem dX6_shocks_125 : decode cX6_shocks 125 = .ok (.goto 4, 3) := by decide +kernel
theorem dX6_shocks_128 : decode cX6_shocks 128 = .ok (.iconst 0, 1) := by decide +kernel
theorem dX6_shocks_129 : decode cX6_shocks 129 = .ok (.ior, 1) := by decide +kernel
theorem dX6_shocks_130 : decode cX6_shocks 130 = .ok (.istore_n 2, 1) := by decide +kernel
theorem dX6_shocks_131 : decode cX6_shocks 131 = .ok (.goto 41, 3) := by decide +kernel
theorem dX6_shocks_134 : decode cX6_shocks 134 = .ok (.aload_n 0, 1) := by decide +kernel
theorem dX6_shocks_135 : decode cX6_shocks 135 = .ok (.iload 5, 2) := by decide +kernel
theorem dX6_shocks_137 : decode cX6_shocks 137 = .ok (.iconst 0, 1) := by decide +kernel
theorem dX6_shocks_138 : decode cX6_shocks 138 = .ok (.invokevirtual 65, 3) := by decide +kernel
theorem dX6_shocks_141 : decode cX6_shocks 141 = .ok (.iload 4, 2) := by decide +kernel
theorem dX6_shocks_143 : decode cX6_shocks 143 = .ok (.if_icmp .ne 29, 3) := by decide +kernel
theorem dX6_shocks_146 : decode cX6_shocks 146 = .ok (.iload_n 3, 1) := by decide +kernel
theorem dX6_shocks_147 : decode cX6_shocks 147 = .ok (.aload_n 0, 1) := by decide +kernel
theorem dX6_shocks_148 : decode cX6_shocks 148 = .ok (.iload 5, 2) := by decide +kernel
theorem dX6_shocks_150 : decode cX6_shocks 150 = .ok (.iload 7, 2) := by decide +kernel
theorem dX6_shocks_152 : decode cX6_shocks 152 = .ok (.iload_n 2, 1) := by decide +kernel
theorem dX6_shocks_153 : decode cX6_shocks 153 = .ok (.iload 6, 2) := by decide +kernel
theorem dX6_shocks_155 : decode cX6_shocks 155 = .ok (.ishr, 1) := by decide +kernel
theorem dX6_shocks_156 : decode cX6_shocks 156 = .ok (.iconst 1, 1) := by decide +kernel
theorem dX6_shocks_157 : decode cX6_shocks 157 = .ok (.iand, 1) := by decide +kernel
theorem dX6_shocks_158 : decode cX6_shocks 158 = .ok (.iconst 1, 1) := by decide +kernel
theorem dX6_shocks_159 : decode cX6_shocks 159 = .ok (.if_icmp .ne 7, 3) := by decide +kernel
theorem dX6_shocks_162 : decode cX6_shocks 162 = .ok (.iconst 1, 1) := by decide +kernel
theorem dX6_shocks_163 : decode cX6_shocks 163 = .ok (.goto 4, 3) := by decide +kernel
theorem dX6_shocks_166 : decode cX6_shocks 166 = .ok (.iconst 0, 1) := by decide +kernel
theorem dX6_shocks_167 : decode cX6_shocks 167 = .ok (.invokevirtual 133, 3) := by decide +kernel
theorem dX6_shocks_170 : decode cX6_shocks 170 = .ok (.iadd, 1) := by decide +kernel
theorem dX6_shocks_171 : decode cX6_shocks 171 = .ok (.istore_n 3, 1) := by decide +kernel
theorem dX6_shocks_172 : decode cX6_shocks 172 = .ok (.iinc 5 1, 3) := by decide +kernel
theorem dX6_shocks_175 : decode cX6_shocks 175 = .ok (.goto (-154), 3) := by decide +kernel
theorem dX6_shocks_178 : decode cX6_shocks 178 = .ok (.iinc 4 1, 3) := by decide +kernel
theorem dX6_shocks_181 : decode cX6_shocks 181 = .ok (.goto (-169), 3) := by decide +kernel
theorem dX6_shocks_184 : decode cX6_shocks 184 = .ok (.aload_n 0, 1) := by decide +kernel
theorem dX6_shocks_185 : decode cX6_shocks 185 = .ok (.getfield 9, 3) := by decide +kernel
theorem dX6_shocks_188 : decode cX6_shocks 188 = .ok (.iconst 2, 1) := by decide +kernel
theorem dX6_shocks_189 : decode cX6_shocks 189 = .ok (.dup2, 1) := by decide +kernel
theorem dX6_shocks_190 : decode cX6_shocks 190 = .ok (.iaload, 1) := by decide +kernel
theorem dX6_shocks_191 : decode cX6_shocks 191 = .ok (.iconst 1, 1) := by decide +kernel
theorem dX6_shocks_192 : decode cX6_shocks 192 = .ok (.iadd, 1) := by decide +kernel
theorem dX6_shocks_193 : decode cX6_shocks 193 = .ok (.iastore, 1) := by decide +kernel
theorem dX6_shocks_194 : decode cX6_shocks 194 = .ok (.aload_n 0, 1) := by decide +kernel
theorem dX6_shocks_195 : decode cX6_shocks 195 = .ok (.getfield 9, 3) := by decide +kernel
theorem dX6_shocks_198 : decode cX6_shocks 198 = .ok (.iconst 4, 1) := by decide +kernel
theorem dX6_shocks_199 : decode cX6_shocks 199 = .ok (.dup2, 1) := by decide +kernel
theorem dX6_shocks_200 : decode cX6_shocks 200 = .ok (.iaload, 1) := by decide +kernel
theorem dX6_shocks_201 : decode cX6_shocks 201 = .ok (.iload_n 3, 1) := by decide +kernel
theorem dX6_shocks_202 : decode cX6_shocks 202 = .ok (.iadd, 1) := by decide +kernel
theorem dX6_shocks_203 : decode cX6_shocks 203 = .ok (.iastore, 1) := by decide +kernel
theorem dX6_shocks_204 : decode cX6_shocks 204 = .ok (.aload_n 0, 1) := by decide +kernel
theorem dX6_shocks_205 : decode cX6_shocks 205 = .ok (.getfield 9, 3) := by decide +kernel
theorem dX6_shocks_208 : decode cX6_shocks 208 = .ok (.iconst 5, 1) := by decide +kernel
theorem dX6_shocks_209 : decode cX6_shocks 209 = .ok (.dup2, 1) := by decide +kernel
theorem dX6_shocks_210 : decode cX6_shocks 210 = .ok (.iaload, 1) := by decide +kernel
theorem dX6_shocks_211 : decode cX6_shocks 211 = .ok (.aload_n 0, 1) := by decide +kernel
theorem dX6_shocks_212 : decode cX6_shocks 212 = .ok (.getfield 120, 3) := by decide +kernel
theorem dX6_shocks_215 : decode cX6_shocks 215 = .ok (.iadd, 1) := by decide +kernel
theorem dX6_shocks_216 : decode cX6_shocks 216 = .ok (.iastore, 1) := by decide +kernel
theorem dX6_shocks_217 : decode cX6_shocks 217 = .ok (.iload_n 3, 1) := by decide +kernel
theorem dX6_shocks_218 : decode cX6_shocks 218 = .ok (.ireturn, 1) := by decide +kernel
theorem dX6_shock_0 : decode cX6_shock 0 = .ok (.aload_n 0, 1) := by decide +kernel
theorem dX6_shock_1 : decode cX6_shock 1 = .ok (.invokevirtual 88, 3) := by decide +kernel
theorem dX6_shock_4 : decode cX6_shock 4 = .ok (.aload_n 0, 1) := by decide +kernel
theorem dX6_shock_5 : decode cX6_shock 5 = .ok (.aload_n 0, 1) := by decide +kernel
theorem dX6_shock_6 : decode cX6_shock 6 = .ok (.aload_n 0, 1) := by decide +kernel
theorem dX6_shock_7 : decode cX6_shock 7 = .ok (.getfield 9, 3) := by decide +kernel
theorem dX6_shock_10 : decode cX6_shock 10 = .ok (.iconst 1, 1) := by decide +kernel
theorem dX6_shock_11 : decode cX6_shock 11 = .ok (.iaload, 1) := by decide +kernel
theorem dX6_shock_12 : decode cX6_shock 12 = .ok (.invokevirtual 137, 3) := by decide +kernel
theorem dX6_shock_15 : decode cX6_shock 15 = .ok (.invokevirtual 94, 3) := by decide +kernel
theorem dX6_shock_18 : decode cX6_shock 18 = .ok (.ireturn, 1) := by decide +kernel
theorem dX6_doAdd_0 : decode cX6_doAdd 0 = .ok (.aload_n 0, 1) := by decide +kernel
theorem dX6_doAdd_1 : decode cX6_doAdd 1 = .ok (.getfield 9, 3) := by decide +kernel
theorem dX6_doAdd_4 : decode cX6_doAdd 4 = .ok (.bipush 6, 2) := by decide +kernel
theorem dX6_doAdd_6 : decode cX6_doAdd 6 = .ok (.iaload, 1) := by decide +kernel
theorem dX6_doAdd_7 : decode cX6_doAdd 7 = .ok (.istore_n 2, 1) := by decide +kernel
theorem dX6_doAdd_8 : decode cX6_doAdd 8 = .ok (.iload_n 1, 1) := by decide +kernel
theorem dX6_doAdd_9 : decode cX6_doAdd 9 = .ok (.invokestatic 106, 3) := by decide +kernel
theorem dX6_doAdd_12 : decode cX6_doAdd 12 = .ok (.ifCond .ne 9, 3) := by decide +kernel
theorem dX6_doAdd_15 : decode cX6_doAdd 15 = .ok (.aload_n 0, 1) := by decide +kernel
theorem dX6_doAdd_16 : decode cX6_doAdd 16 = .ok (.iconst 1, 1) := by decide +kernel
theorem dX6_doAdd_17 : decode cX6_doAdd 17 = .ok (.invokevirtual 73, 3) := by decide +kernel
theorem dX6_doAdd_20 : decode cX6_doAdd 20 = .ok (.ireturn, 1) := by decide +kernel
theorem dX6_doAdd_21 : decode cX6_doAdd 21 = .ok (.iload_n 2, 1) := by decide +kernel
theorem dX6_doAdd_22 : decode cX6_doAdd 22 = .ok (.bipush 8, 2) := by decide +kernel
theorem dX6_doAdd_24 : decode cX6_doAdd 24 = .ok (.if_icmp .ne 12, 3) := by decide +kernel
theorem dX6_doAdd_27 : decode cX6_doAdd 27 = .ok (.aload_n 0, 1) := by decide +kernel
theorem dX6_doAdd_28 : decode cX6_doAdd 28 = .ok (.iconst 2, 1) := by decide +kernel
theorem dX6_doAdd_29 : decode cX6_doAdd 29 = .ok (.iconst 1, 1) := by decide +kernel
theorem dX6_doAdd_30 : decode cX6_doAdd 30 = .ok (.bipush 8, 2) := by decide +kernel
theorem dX6_doAdd_32 : decode cX6_doAdd 32 = .ok (.invokevirtual 77, 3) := by decide +kernel
theorem dX6_doAdd_35 : decode cX6_doAdd 35 = .ok (.ireturn, 1) := by decide +kernel
theorem dX6_doAdd_36 : decode cX6_doAdd 36 = .ok (.aload_n 0, 1) := by decide +kernel
theorem dX6_doAdd_37 : decode cX6_doAdd 37 = .ok (.getfield 9, 3) := by decide +kernel
theorem dX6_doAdd_40 : decode cX6_doAdd 40 = .ok (.bipush 7, 2) := by decide +kernel
theorem dX6_doAdd_42 : decode cX6_doAdd 42 = .ok (.iload_n 2, 1) := by decide +kernel
theorem dX6_doAdd_43 : decode cX6_doAdd 43 = .ok (.iadd, 1) := by decide +kernel
theorem dX6_doAdd_44 : decode cX6_doAdd 44 = .ok (.iload_n 1, 1) := by decide +kernel
theorem dX6_doAdd_45 : decode cX6_doAdd 45 = .ok (.iastore, 1) := by decide +kernel
theorem dX6_doAdd_46 : decode cX6_doAdd 46 = .ok (.aload_n 0, 1) := by decide +kernel
theorem dX6_doAdd_47 : decode cX6_doAdd 47 = .ok (.getfield 9, 3) := by decide +kernel
theorem dX6_doAdd_50 : decode cX6_doAdd 50 = .ok (.bipush 6, 2) := by decide +kernel
theorem dX6_doAdd_52 : decode cX6_doAdd 52 = .ok (.dup2, 1) := by decide +kernel
theorem dX6_doAdd_53 : decode cX6_doAdd 53 = .ok (.iaload, 1) := by decide +kernel
theorem dX6_doAdd_54 : decode cX6_doAdd 54 = .ok (.iconst 1, 1) := by decide +kernel
theorem dX6_doAdd_55 : decode cX6_doAdd 55 = .ok (.iadd, 1) := by decide +kernel
theorem dX6_doAdd_56 : decode cX6_doAdd 56 = .ok (.iastore, 1) := by decide +kernel
theorem dX6_doAdd_57 : decode cX6_doAdd 57 = .ok (.iload_n 2, 1) := by decide +kernel
theorem dX6_doAdd_58 : decode cX6_doAdd 58 = .ok (.iconst 1, 1) := by decide +kernel
theorem dX6_doAdd_59 : decode cX6_doAdd 59 = .ok (.iadd, 1) := by decide +kernel
theorem dX6_doAdd_60 : decode cX6_doAdd 60 = .ok (.ireturn, 1) := by decide +kernel
theorem dX6_add_0 : decode cX6_add 0 = .ok (.aload_n 0, 1) := by decide +kernel
theorem dX6_add_1 : decode cX6_add 1 = .ok (.invokevirtual 88, 3) := by decide +kernel
theorem dX6_add_4 : decode cX6_add 4 = .ok (.aload_n 0, 1) := by decide +kernel
theorem dX6_add_5 : decode cX6_add 5 = .ok (.aload_n 0, 1) := by decide +kernel
theorem dX6_add_6 : decode cX6_add 6 = .ok (.iload_n 1, 1) := by decide +kernel
theorem dX6_add_7 : decode cX6_add 7 = .ok (.invokevirtual 140, 3) := by decide +kernel
theorem dX6_add_10 : decode cX6_add 10 = .ok (.invokevirtual 94, 3) := by decide +kernel
theorem dX6_add_13 : decode cX6_add 13 = .ok (.ireturn, 1) := by decide +kernel
theorem dX6_doPerform_0 : decode cX6_doPerform 0 = .ok (.iconst 0, 1) := by decide +kernel
theorem dX6_doPerform_1 : decode cX6_doPerform 1 = .ok (.istore_n 1, 1) := by decide +kernel
theorem dX6_doPerform_2 : decode cX6_doPerform 2 = .ok (.aload_n 0, 1) := by decide +kernel
theorem dX6_doPerform_3 : decode cX6_doPerform 3 = .ok (.getfield 9, 3) := by decide +kernel
theorem dX6_doPerform_6 : decode cX6_doPerform 6 = .ok (.bipush 6, 2) := by decide +kernel
theorem dX6_doPerform_8 : decode cX6_doPerform 8 = .ok (.iaload, 1) := by decide +kernel
theorem dX6_doPerform_9 : decode cX6_doPerform 9 = .ok (.ifCond .ne 16, 3) := by decide +kernel
theorem dX6_doPerform_12 : decode cX6_doPerform 12 = .ok (.aload_n 0, 1) := by decide +kernel
theorem dX6_doPerform_13 : decode cX6_doPerform 13 = .ok (.iconst 1, 1) := by decide +kernel
theorem dX6_doPerform_14 : decode cX6_doPerform 14 = .ok (.iconst 5, 1) := by decide +kernel
theorem dX6_doPerform_15 : decode cX6_doPerform 15 = .ok (.aload_n 0, 1) := by decide +kernel
theorem dX6_doPerform_16 : decode cX6_doPerform 16 = .ok (.getfield 9, 3) := by decide +kernel
theorem dX6_doPerform_19 : decode cX6_doPerform 19 = .ok (.iconst 2, 1) := by decide +kernel
theorem dX6_doPerform_20 : decode cX6_doPerform 20 = .ok (.iaload, 1) := by decide +kernel
theorem dX6_doPerform_21 : decode cX6_doPerform 21 = .ok (.invokevirtual 77, 3) := by decide +kernel
theorem dX6_doPerform_24 : decode cX6_doPerform 24 = .ok (.ireturn, 1) := by decide +kernel
theorem dX6_doPerform_25 : decode cX6_doPerform 25 = .ok (.aload_n 0, 1) := by decide +kernel
theorem dX6_doPerform_26 : decode cX6_doPerform 26 = .ok (.iconst 3, 1) := by decide +kernel
theorem dX6_doPerform_27 : decode cX6_doPerform 27 = .ok (.invokevirtual 143, 3) := by decide +kernel
theorem dX6_doPerform_30 : decode cX6_doPerform 30 = .ok (.istore_n 2, 1) := by decide +kernel
theorem dX6_doPerform_31 : decode cX6_doPerform 31 = .ok (.iconst 0, 1) := by decide +kernel
theorem dX6_doPerform_32 : decode cX6_doPerform 32 = .ok (.istore_n 3, 1) := by decide +kernel
theorem dX6_doPerform_33 : decode cX6_doPerform 33 = .ok (.iload_n 3, 1) := by decide +kernel
theorem dX6_doPerform_34 : decode cX6_doPerform 34 = .ok (.aload_n 0, 1) := by decide +kernel
theorem dX6_doPerform_35 : decode cX6_doPerform 35 = .ok (.getfield 9, 3) := by decide +kernel
theorem dX6_doPerform_38 : decode cX6_doPerform 38 = .ok (.bipush 6, 2) := by decide +kernel
theorem dX6_doPerform_40 : decode cX6_doPerform 40 = .ok (.iaload, 1) := by decide +kernel
theorem dX6_doPerform_41 : decode cX6_doPerform 41 = .ok (.if_icmp .ge 59, 3) := by decide +kernel
theorem dX6_doPerform_44 : decode cX6_doPerform 44 = .ok (.aload_n 0, 1) := by decide +kernel
theorem dX6_doPerform_45 : decode cX6_doPerform 45 = .ok (.getfield 9, 3) := by decide +kernel
theorem dX6_doPerform_48 : decode cX6_doPerform 48 = .ok (.bipush 7, 2) := by decide +kernel
theorem dX6_doPerform_50 : decode cX6_doPerform 50 = .ok (.iload_n 3, 1) := by decide +kernel
theorem dX6_doPerform_51 : decode cX6_doPerform 51 = .ok (.iadd, 1) := by decide +kernel
theorem dX6_doPerform_52 : decode cX6_doPerform 52 = .ok (.iaload, 1) := by decide +kernel
theorem dX6_doPerform_53 : decode cX6_doPerform 53 = .ok (.istore 4, 2) := by decide +kernel
theorem dX6_doPerform_55 : decode cX6_doPerform 55 = .ok (.aload_n 0, 1) := by decide +kernel
theorem dX6_doPerform_56 : decode cX6_doPerform 56 = .ok (.iload 4, 2) := by decide +kernel
theorem dX6_doPerform_58 : decode cX6_doPerform 58 = .ok (.invokevirtual 137, 3) := by decide +kernel
theorem dX6_doPerform_61 : decode cX6_doPerform 61 = .ok (.istore 5, 2) := by decide +kernel
theorem dX6_doPerform_63 : decode cX6_doPerform 63 = .ok (.iload_n 2, 1) := by decide +kernel
theorem dX6_doPerform_64 : decode cX6_doPerform 64 = .ok (.ifCond .le 30, 3) := by decide +kernel
theorem dX6_doPerform_67 : decode cX6_doPerform 67 = .ok (.iload 5, 2) := by decide +kernel
theorem dX6_doPerform_69 : decode cX6_doPerform 69 = .ok (.iconst 3, 1) := by decide +kernel
theorem dX6_doPerform_70 : decode cX6_doPerform 70 = .ok (.iload_n 2, 1) := by decide +kernel
theorem dX6_doPerform_71 : decode cX6_doPerform 71 = .ok (.imul, 1) := by decide +kernel
theorem dX6_doPerform_72 : decode cX6_doPerform 72 = .ok (.if_icmp .lt 22, 3) := by decide +kernel
theorem dX6_doPerform_75 : decode cX6_doPerform 75 = .ok (.iload 4, 2) := by decide +kernel
theorem dX6_doPerform_77 : decode cX6_doPerform 77 = .ok (.iconst 1, 1) := by decide +kernel
theorem dX6_doPerform_78 : decode cX6_doPerform 78 = .ok (.if_icmp .le 16, 3) := by decide +kernel
theorem dX6_doPerform_81 : decode cX6_doPerform 81 = .ok (.aload_n 0, 1) := by decide +kernel
theorem dX6_doPerform_82 : decode cX6_doPerform 82 = .ok (.iload 4, 2) := by decide +kernel
theorem dX6_doPerform_84 : decode cX6_doPerform 84 = .ok (.iconst 2, 1) := by decide +kernel
theorem dX6_doPerform_85 : decode cX6_doPerform 85 = .ok (.idiv, 1) := by decide +kernel
theorem dX6_doPerform_86 : decode cX6_doPerform 86 = .ok (.invokevirtual 137, 3) := by decide +kernel
theorem dX6_doPerform_89 : decode cX6_doPerform 89 = .ok (.istore 6, 2) := by decide +kernel
theorem dX6_doPerform_91 : decode cX6_doPerform 91 = .ok (.iinc 1 1, 3) := by decide +kernel
theorem dX6_doPerform_94 : decode cX6_doPerform 94 = .ok (.iinc 3 1, 3) := by decide +kernel
theorem dX6_doPerform_97 : decode cX6_doPerform 97 = .ok (.goto (-64), 3) := by decide +kernel
theorem dX6_doPerform_100 : decode cX6_doPerform 100 = .ok (.aload_n 0, 1) := by decide +kernel
theorem dX6_doPerform_101 : decode cX6_doPerform 101 = .ok (.getfield 9, 3) := by decide +kernel
theorem dX6_doPerform_104 : decode cX6_doPerform 104 = .ok (.iconst 3, 1) := by decide +kernel
theorem dX6_doPerform_105 : decode cX6_doPerform 105 = .ok (.dup2, 1) := by decide +kernel
theorem dX6_doPerform_106 : decode cX6_doPerform 106 = .ok (.iaload, 1) := by decide +kernel
theorem dX6_doPerform_107 : decode cX6_doPerform 107 = .ok (.iload_n 1, 1) := by decide +kernel
theorem dX6_doPerform_108 : decode cX6_doPerform 108 = .ok (.iadd, 1) := by decide +kernel
theorem dX6_doPerform_109 : decode cX6_doPerform 109 = .ok (.iastore, 1) := by decide +kernel
theorem dX6_doPerform_110 : decode cX6_doPerform 110 = .ok (.aload_n 0, 1) := by decide +kernel
theorem dX6_doPerform_111 : decode cX6_doPerform 111 = .ok (.getfield 9, 3) := by decide +kernel
theorem dX6_doPerform_114 : decode cX6_doPerform 114 = .ok (.bipush 6, 2) := by decide +kernel
theorem dX6_doPerform_116 : decode cX6_doPerform 116 = .ok (.iconst 0, 1) := by decide +kernel
theorem dX6_doPerform_117 : decode cX6_doPerform 117 = .ok (.iastore, 1) := by decide +kernel
theorem dX6_doPerform_118 : decode cX6_doPerform 118 = .ok (.iload_n 1, 1) := by decide +kernel
theorem dX6_doPerform_119 : decode cX6_doPerform 119 = .ok (.ireturn, 1) := by decide +kernel
theorem dX6_perform_0 : decode cX6_perform 0 = .ok (.aload_n 0, 1) := by decide +kernel
theorem dX6_perform_1 : decode cX6_perform 1 = .ok (.invokevirtual 88, 3) := by decide +kernel
theorem dX6_perform_4 : decode cX6_perform 4 = .ok (.aload_n 0, 1) := by decide +kernel
theorem dX6_perform_5 : decode cX6_perform 5 = .ok (.aload_n 0, 1) := by decide +kernel
theorem dX6_perform_6 : decode cX6_perform 6 = .ok (.invokevirtual 146, 3) := by decide +kernel
theorem dX6_perform_9 : decode cX6_perform 9 = .ok (.invokevirtual 94, 3) := by decide +kernel
theorem dX6_perform_12 : decode cX6_perform 12 = .ok (.ireturn, 1) := by decide +kernel
theorem dX6_doQuiet_0 : decode cX6_doQuiet 0 = .ok (.iconst 0, 1) := by decide +kernel
theorem dX6_doQuiet_1 : decode cX6_doQuiet 1 = .ok (.istore_n 1, 1) := by decide +kernel
theorem dX6_doQuiet_2 : decode cX6_doQuiet 2 = .ok (.iconst 0, 1) := by decide +kernel
theorem dX6_doQuiet_3 : decode cX6_doQuiet 3 = .ok (.istore_n 2, 1) := by decide +kernel
theorem dX6_doQuiet_4 : decode cX6_doQuiet 4 = .ok (.iload_n 2, 1) := by decide +kernel
theorem dX6_doQuiet_5 : decode cX6_doQuiet 5 = .ok (.aload_n 0, 1) := by decide +kernel
theorem dX6_doQuiet_6 : decode cX6_doQuiet 6 = .ok (.getfield 9, 3) := by decide +kernel
theorem dX6_doQuiet_9 : decode cX6_doQuiet 9 = .ok (.iconst 0, 1) := by decide +kernel
theorem dX6_doQuiet_10 : decode cX6_doQuiet 10 = .ok (.iaload, 1) := by decide +kernel
theorem dX6_doQuiet_11 : decode cX6_doQuiet 11 = .ok (.if_icmp .ge 51, 3) := by decide +kernel
theorem dX6_doQuiet_14 : decode cX6_doQuiet 14 = .ok (.aload_n 0, 1) := by decide +kernel
theorem dX6_doQuiet_15 : decode cX6_doQuiet 15 = .ok (.iload_n 2, 1) := by decide +kernel
theorem dX6_doQuiet_16 : decode cX6_doQuiet 16 = .ok (.iconst 0, 1) := by decide +kernel
theorem dX6_doQuiet_17 : decode cX6_doQuiet 17 = .ok (.invokevirtual 65, 3) := by decide +kernel
theorem dX6_doQuiet_20 : decode cX6_doQuiet 20 = .ok (.iconst 2, 1) := by decide +kernel
theorem dX6_doQuiet_21 : decode cX6_doQuiet 21 = .ok (.if_icmp .ne 35, 3) := by decide +kernel
theorem dX6_doQuiet_24 : decode cX6_doQuiet 24 = .ok (.aload_n 0, 1) := by decide +kernel
theorem dX6_doQuiet_25 : decode cX6_doQuiet 25 = .ok (.iload_n 2, 1) := by decide +kernel
theorem dX6_doQuiet_26 : decode cX6_doQuiet 26 = .ok (.iconst 4, 1) := by decide +kernel
theorem dX6_doQuiet_27 : decode cX6_doQuiet 27 = .ok (.invokevirtual 65, 3) := by decide +kernel
theorem dX6_doQuiet_30 : decode cX6_doQuiet 30 = .ok (.ifCond .ne 26, 3) := by decide +kernel
theorem dX6_doQuiet_33 : decode cX6_doQuiet 33 = .ok (.aload_n 0, 1) := by decide +kernel
theorem dX6_doQuiet_34 : decode cX6_doQuiet 34 = .ok (.iload_n 2, 1) := by decide +kernel
theorem dX6_doQuiet_35 : decode cX6_doQuiet 35 = .ok (.iconst 3, 1) := by decide +kernel
theorem dX6_doQuiet_36 : decode cX6_doQuiet 36 = .ok (.aload_n 0, 1) := by decide +kernel
theorem dX6_doQuiet_37 : decode cX6_doQuiet 37 = .ok (.iload_n 2, 1) := by decide +kernel
theorem dX6_doQuiet_38 : decode cX6_doQuiet 38 = .ok (.iconst 3, 1) := by decide +kernel
theorem dX6_doQuiet_39 : decode cX6_doQuiet 39 = .ok (.invokevirtual 65, 3) := by decide +kernel
theorem dX6_doQuiet_42 : decode cX6_doQuiet 42 = .ok (.iconst 2, 1) := by decide +kernel
theorem dX6_doQuiet_43 : decode cX6_doQuiet 43 = .ok (.idiv, 1) := by decide +kernel
theorem dX6_doQuiet_44 : decode cX6_doQuiet 44 = .ok (.invokevirtual 84, 3) := by decide +kernel
theorem dX6_doQuiet_47 : decode cX6_doQuiet 47 = .ok (.iload_n 1, 1) := by decide +kernel
theorem dX6_doQuiet_48 : decode cX6_doQuiet 48 = .ok (.aload_n 0, 1) := by decide +kernel
theorem dX6_doQuiet_49 : decode cX6_doQuiet 49 = .ok (.iload_n 2, 1) := by decide +kernel
theorem dX6_doQuiet_50 : decode cX6_doQuiet 50 = .ok (.iconst 3, 1) := by decide +kernel
theorem dX6_doQuiet_51 : decode cX6_doQuiet 51 = .ok (.invokevirtual 65, 3) := by decide +kernel
theorem dX6_doQuiet_54 : decode cX6_doQuiet 54 = .ok (.iadd, 1) := by decide +kernel
theorem dX6_doQuiet_55 : decode cX6_doQuiet 55 = .ok (.istore_n 1, 1) := by decide +kernel
theorem dX6_doQuiet_56 : decode cX6_doQuiet 56 = .ok (.iinc 2 1, 3) := by decide +kernel
theorem dX6_doQuiet_59 : decode cX6_doQuiet 59 = .ok (.goto (-55), 3) := by decide +kernel
theorem dX6_doQuiet_62 : decode cX6_doQuiet 62 = .ok (.iload_n 1, 1) := by decide +kernel
theorem dX6_doQuiet_63 : decode cX6_doQuiet 63 = .ok (.ireturn, 1) := by decide +kernel
theorem dX6_quiet_0 : decode cX6_quiet 0 = .ok (.aload_n 0, 1) := by decide +kernel
theorem dX6_quiet_1 : decode cX6_quiet 1 = .ok (.invokevirtual 88, 3) := by decide +kernel
theorem dX6_quiet_4 : decode cX6_quiet 4 = .ok (.aload_n 0, 1) := by decide +kernel
theorem dX6_quiet_5 : decode cX6_quiet 5 = .ok (.aload_n 0, 1) := by decide +kernel
theorem dX6_quiet_6 : decode cX6_quiet 6 = .ok (.invokevirtual 150, 3) := by decide +kernel
theorem dX6_quiet_9 : decode cX6_quiet 9 = .ok (.invokevirtual 94, 3) := by decide +kernel
theorem dX6_quiet_12 : decode cX6_quiet 12 = .ok (.ireturn, 1) := by decide +kernel
theorem dX6_propOf_0 : decode cX6_propOf 0 = .ok (.aload_n 0, 1) := by decide +kernel
theorem dX6_propOf_1 : decode cX6_propOf 1 = .ok (.aload_n 0, 1) := by decide +kernel
theorem dX6_propOf_2 : decode cX6_propOf 2 = .ok (.iload_n 1, 1) := by decide +kernel
theorem dX6_propOf_3 : decode cX6_propOf 3 = .ok (.invokevirtual 97, 3) := by decide +kernel
theorem dX6_propOf_6 : decode cX6_propOf 6 = .ok (.ifCond .ne 7, 3) := by decide +kernel
theorem dX6_propOf_9 : decode cX6_propOf 9 = .ok (.iconst 1, 1) := by decide +kernel
theorem dX6_propOf_10 : decode cX6_propOf 10 = .ok (.goto 18, 3) := by decide +kernel
theorem dX6_propOf_13 : decode cX6_propOf 13 = .ok (.iload_n 2, 1) := by decide +kernel
theorem dX6_propOf_14 : decode cX6_propOf 14 = .ok (.iconst 0, 1) := by decide +kernel
theorem dX6_propOf_15 : decode cX6_propOf 15 = .ok (.bipush 6, 2) := by decide +kernel
theorem dX6_propOf_17 : decode cX6_propOf 17 = .ok (.invokestatic 61, 3) := by decide +kernel
theorem dX6_propOf_20 : decode cX6_propOf 20 = .ok (.ifCond .ne 7, 3) := by decide +kernel
theorem dX6_propOf_23 : decode cX6_propOf 23 = .ok (.iconst 2, 1) := by decide +kernel
theorem dX6_propOf_24 : decode cX6_propOf 24 = .ok (.goto 4, 3) := by decide +kernel
theorem dX6_propOf_27 : decode cX6_propOf 27 = .ok (.iconst 0, 1) := by decide +kernel
theorem dX6_propOf_28 : decode cX6_propOf 28 = .ok (.putfield 39, 3) := by decide +kernel
theorem dX6_propOf_31 : decode cX6_propOf 31 = .ok (.aload_n 0, 1) := by decide +kernel
theorem dX6_propOf_32 : decode cX6_propOf 32 = .ok (.getfield 39, 3) := by decide +kernel
theorem dX6_propOf_35 : decode cX6_propOf 35 = .ok (.ifCond .le 7, 3) := by decide +kernel
theorem dX6_propOf_38 : decode cX6_propOf 38 = .ok (.iconst 0, 1) := by decide +kernel
theorem dX6_propOf_39 : decode cX6_propOf 39 = .ok (.goto 9, 3) := by decide +kernel
theorem dX6_propOf_42 : decode cX6_propOf 42 = .ok (.aload_n 0, 1) := by decide +kernel
theorem dX6_propOf_43 : decode cX6_propOf 43 = .ok (.iload_n 1, 1) := by decide +kernel
theorem dX6_propOf_44 : decode cX6_propOf 44 = .ok (.iload_n 2, 1) := by decide +kernel
theorem dX6_propOf_45 : decode cX6_propOf 45 = .ok (.invokevirtual 65, 3) := by decide +kernel
theorem dX6_propOf_48 : decode cX6_propOf 48 = .ok (.ireturn, 1) := by decide +kernel
theorem dX6_programme_0 : decode cX6_programme 0 = .ok (.aload_n 0, 1) := by decide +kernel
theorem dX6_programme_1 : decode cX6_programme 1 = .ok (.iload_n 1, 1) := by decide +kernel
theorem dX6_programme_2 : decode cX6_programme 2 = .ok (.iconst 0, 1) := by decide +kernel
theorem dX6_programme_3 : decode cX6_programme 3 = .ok (.aload_n 0, 1) := by decide +kernel
theorem dX6_programme_4 : decode cX6_programme 4 = .ok (.getfield 9, 3) := by decide +kernel
theorem dX6_programme_7 : decode cX6_programme 7 = .ok (.bipush 6, 2) := by decide +kernel
theorem dX6_programme_9 : decode cX6_programme 9 = .ok (.iaload, 1) := by decide +kernel
theorem dX6_programme_10 : decode cX6_programme 10 = .ok (.iconst 1, 1) := by decide +kernel
theorem dX6_programme_11 : decode cX6_programme 11 = .ok (.isub, 1) := by decide +kernel
theorem dX6_programme_12 : decode cX6_programme 12 = .ok (.invokestatic 61, 3) := by decide +kernel
theorem dX6_programme_15 : decode cX6_programme 15 = .ok (.ifCond .eq 7, 3) := by decide +kernel
theorem dX6_programme_18 : decode cX6_programme 18 = .ok (.iconst 0, 1) := by decide +kernel
theorem dX6_programme_19 : decode cX6_programme 19 = .ok (.goto 4, 3) := by decide +kernel
theorem dX6_programme_22 : decode cX6_programme 22 = .ok (.iconst 1, 1) := by decide +kernel
theorem dX6_programme_23 : decode cX6_programme 23 = .ok (.putfield 39, 3) := by decide +kernel
theorem dX6_programme_26 : decode cX6_programme 26 = .ok (.aload_n 0, 1) := by decide +kernel
theorem dX6_programme_27 : decode cX6_programme 27 = .ok (.getfield 39, 3) := by decide +kernel
theorem dX6_programme_30 : decode cX6_programme 30 = .ok (.ifCond .le 7, 3) := by decide +kernel
theorem dX6_programme_33 : decode cX6_programme 33 = .ok (.iconst 0, 1) := by decide +kernel
theorem dX6_programme_34 : decode cX6_programme 34 = .ok (.goto 12, 3) := by decide +kernel
theorem dX6_programme_37 : decode cX6_programme 37 = .ok (.aload_n 0, 1) := by decide +kernel
theorem dX6_programme_38 : decode cX6_programme 38 = .ok (.getfield 9, 3) := by decide +kernel
theorem dX6_programme_41 : decode cX6_programme 41 = .ok (.bipush 7, 2) := by decide +kernel
theorem dX6_programme_43 : decode cX6_programme 43 = .ok (.iload_n 1, 1) := by decide +kernel
theorem dX6_programme_44 : decode cX6_programme 44 = .ok (.iadd, 1) := by decide +kernel
theorem dX6_programme_45 : decode cX6_programme 45 = .ok (.iaload, 1) := by decide +kernel
theorem dX6_programme_46 : decode cX6_programme 46 = .ok (.ireturn, 1) := by decide +kernel
theorem dX6_on_0 : decode cX6_on 0 = .ok (.aload_n 0, 1) := by decide +kernel
theorem dX6_on_1 : decode cX6_on 1 = .ok (.iload_n 1, 1) := by decide +kernel
theorem dX6_on_2 : decode cX6_on 2 = .ok (.invokestatic 106, 3) := by decide +kernel
theorem dX6_on_5 : decode cX6_on 5 = .ok (.ifCond .eq 14, 3) := by decide +kernel
theorem dX6_on_8 : decode cX6_on 8 = .ok (.iload_n 2, 1) := by decide +kernel
theorem dX6_on_9 : decode cX6_on 9 = .ok (.invokestatic 69, 3) := by decide +kernel
theorem dX6_on_12 : decode cX6_on 12 = .ok (.ifCond .eq 7, 3) := by decide +kernel
theorem dX6_on_15 : decode cX6_on 15 = .ok (.iconst 0, 1) := by decide +kernel
theorem dX6_on_16 : decode cX6_on 16 = .ok (.goto 4, 3) := by decide +kernel
theorem dX6_on_19 : decode cX6_on 19 = .ok (.iconst 1, 1) := by decide +kernel
theorem dX6_on_20 : decode cX6_on 20 = .ok (.putfield 39, 3) := by decide +kernel
theorem dX6_on_23 : decode cX6_on 23 = .ok (.aload_n 0, 1) := by decide +kernel
theorem dX6_on_24 : decode cX6_on 24 = .ok (.getfield 39, 3) := by decide +kernel
theorem dX6_on_27 : decode cX6_on 27 = .ok (.ifCond .le 7, 3) := by decide +kernel
theorem dX6_on_30 : decode cX6_on 30 = .ok (.iconst 0, 1) := by decide +kernel
theorem dX6_on_31 : decode cX6_on 31 = .ok (.goto 9, 3) := by decide +kernel
theorem dX6_on_34 : decode cX6_on 34 = .ok (.aload_n 0, 1) := by decide +kernel
theorem dX6_on_35 : decode cX6_on 35 = .ok (.iload_n 1, 1) := by decide +kernel
theorem dX6_on_36 : decode cX6_on 36 = .ok (.iload_n 2, 1) := by decide +kernel
theorem dX6_on_37 : decode cX6_on 37 = .ok (.invokevirtual 123, 3) := by decide +kernel
theorem dX6_on_40 : decode cX6_on 40 = .ok (.ireturn, 1) := by decide +kernel
theorem dX6_thinks_0 : decode cX6_thinks 0 = .ok (.aload_n 0, 1) := by decide +kernel
theorem dX6_thinks_1 : decode cX6_thinks 1 = .ok (.getfield 9, 3) := by decide +kernel
theorem dX6_thinks_4 : decode cX6_thinks 4 = .ok (.iconst 0, 1) := by decide +kernel
theorem dX6_thinks_5 : decode cX6_thinks 5 = .ok (.aload_n 0, 1) := by decide +kernel
theorem dX6_thinks_6 : decode cX6_thinks 6 = .ok (.getfield 16, 3) := by decide +kernel
theorem dX6_thinks_9 : decode cX6_thinks 9 = .ok (.iconst 0, 1) := by decide +kernel
theorem dX6_thinks_10 : decode cX6_thinks 10 = .ok (.bipush 99, 2) := by decide +kernel
theorem dX6_thinks_12 : decode cX6_thinks 12 = .ok (.invokestatic 42, 3) := by decide +kernel
theorem dX6_thinks_15 : decode cX6_thinks 15 = .ok (.return_, 1) := by decide +kernel
theorem dX6_forgets_0 : decode cX6_forgets 0 = .ok (.aload_n 0, 1) := by decide +kernel
theorem dX6_forgets_1 : decode cX6_forgets 1 = .ok (.getfield 16, 3) := by decide +kernel
theorem dX6_forgets_4 : decode cX6_forgets 4 = .ok (.iconst 0, 1) := by decide +kernel
theorem dX6_forgets_5 : decode cX6_forgets 5 = .ok (.aload_n 0, 1) := by decide +kernel
theorem dX6_forgets_6 : decode cX6_forgets 6 = .ok (.getfield 9, 3) := by decide +kernel
theorem dX6_forgets_9 : decode cX6_forgets 9 = .ok (.iconst 0, 1) := by decide +kernel
theorem dX6_forgets_10 : decode cX6_forgets 10 = .ok (.bipush 99, 2) := by decide +kernel
theorem dX6_forgets_12 : decode cX6_forgets 12 = .ok (.invokestatic 42, 3) := by decide +kernel
theorem dX6_forgets_15 : decode cX6_forgets 15 = .ok (.return_, 1) := by decide +kernel
theorem dX6_would_0 : decode cX6_would 0 = .ok (.aload_n 0, 1) := by decide +kernel
theorem dX6_would_1 : decode cX6_would 1 = .ok (.invokevirtual 153, 3) := by decide +kernel
theorem dX6_would_4 : decode cX6_would 4 = .ok (.aload_n 0, 1) := by decide +kernel
theorem dX6_would_5 : decode cX6_would 5 = .ok (.iload_n 1, 1) := by decide +kernel
theorem dX6_would_6 : decode cX6_would 6 = .ok (.invokevirtual 137, 3) := by decide +kernel
theorem dX6_would_9 : decode cX6_would 9 = .ok (.istore_n 3, 1) := by decide +kernel
theorem dX6_would_10 : decode cX6_would 10 = .ok (.aload_n 0, 1) := by decide +kernel
theorem dX6_would_11 : decode cX6_would 11 = .ok (.invokevirtual 156, 3) := by decide +kernel
theorem dX6_would_14 : decode cX6_would 14 = .ok (.iload_n 2, 1) := by decide +kernel
theorem dX6_would_15 : decode cX6_would 15 = .ok (.ifCond .eq 7, 3) := by decide +kernel
theorem dX6_would_18 : decode cX6_would 18 = .ok (.iload_n 3, 1) := by decide +kernel
theorem dX6_would_19 : decode cX6_would 19 = .ok (.goto 7, 3) := by decide +kernel
theorem dX6_would_22 : decode cX6_would 22 = .ok (.aload_n 0, 1) := by decide +kernel
theorem dX6_would_23 : decode cX6_would 23 = .ok (.getfield 120, 3) := by decide +kernel
theorem dX6_would_26 : decode cX6_would 26 = .ok (.ireturn, 1) := by decide +kernel
theorem dX6_wouldMark_0 : decode cX6_wouldMark 0 = .ok (.aload_n 0, 1) := by decide +kernel
theorem dX6_wouldMark_1 : decode cX6_wouldMark 1 = .ok (.iload_n 1, 1) := by decide +kernel
theorem dX6_wouldMark_2 : decode cX6_wouldMark 2 = .ok (.invokestatic 106, 3) := by decide +kernel
theorem dX6_wouldMark_5 : decode cX6_wouldMark 5 = .ok (.ifCond .eq 7, 3) := by decide +kernel
theorem dX6_wouldMark_8 : decode cX6_wouldMark 8 = .ok (.iconst 0, 1) := by decide +kernel
theorem dX6_wouldMark_9 : decode cX6_wouldMark 9 = .ok (.goto 4, 3) := by decide +kernel
theorem dX6_wouldMark_12 : decode cX6_wouldMark 12 = .ok (.iconst 1, 1) := by decide +kernel
theorem dX6_wouldMark_13 : decode cX6_wouldMark 13 = .ok (.putfield 39, 3) := by decide +kernel
theorem dX6_wouldMark_16 : decode cX6_wouldMark 16 = .ok (.aload_n 0, 1) := by decide +kernel
theorem dX6_wouldMark_17 : decode cX6_wouldMark 17 = .ok (.getfield 39, 3) := by decide +kernel
theorem dX6_wouldMark_20 : decode cX6_wouldMark 20 = .ok (.ifCond .le 7, 3) := by decide +kernel
theorem dX6_wouldMark_23 : decode cX6_wouldMark 23 = .ok (.iconst 0, 1) := by decide +kernel
theorem dX6_wouldMark_24 : decode cX6_wouldMark 24 = .ok (.goto 9, 3) := by decide +kernel
theorem dX6_wouldMark_27 : decode cX6_wouldMark 27 = .ok (.aload_n 0, 1) := by decide +kernel
theorem dX6_wouldMark_28 : decode cX6_wouldMark 28 = .ok (.iload_n 1, 1) := by decide +kernel
theorem dX6_wouldMark_29 : decode cX6_wouldMark 29 = .ok (.iconst 1, 1) := by decide +kernel
theorem dX6_wouldMark_30 : decode cX6_wouldMark 30 = .ok (.invokevirtual 159, 3) := by decide +kernel
theorem dX6_wouldMark_33 : decode cX6_wouldMark 33 = .ok (.ireturn, 1) := by decide +kernel
theorem dX6_wouldBreak_0 : decode cX6_wouldBreak 0 = .ok (.aload_n 0, 1) := by decide +kernel
theorem dX6_wouldBreak_1 : decode cX6_wouldBreak 1 = .ok (.iload_n 1, 1) := by decide +kernel
theorem dX6_wouldBreak_2 : decode cX6_wouldBreak 2 = .ok (.invokestatic 106, 3) := by decide +kernel
theorem dX6_wouldBreak_5 : decode cX6_wouldBreak 5 = .ok (.ifCond .eq 7, 3) := by decide +kernel
theorem dX6_wouldBreak_8 : decode cX6_wouldBreak 8 = .ok (.iconst 0, 1) := by decide +kernel
theorem dX6_wouldBreak_9 : decode cX6_wouldBreak 9 = .ok (.goto 4, 3) := by decide +kernel
theorem dX6_wouldBreak_12 : decode cX6_wouldBreak 12 = .ok (.iconst 1, 1) := by decide +kernel
theorem dX6_wouldBreak_13 : decode cX6_wouldBreak 13 = .ok (.putfield 39, 3) := by decide +kernel
theorem dX6_wouldBreak_16 : decode cX6_wouldBreak 16 = .ok (.aload_n 0, 1) := by decide +kernel
theorem dX6_wouldBreak_17 : decode cX6_wouldBreak 17 = .ok (.getfield 39, 3) := by decide +kernel
theorem dX6_wouldBreak_20 : decode cX6_wouldBreak 20 = .ok (.ifCond .le 7, 3) := by decide +kernel
theorem dX6_wouldBreak_23 : decode cX6_wouldBreak 23 = .ok (.iconst 0, 1) := by decide +kernel
theorem dX6_wouldBreak_24 : decode cX6_wouldBreak 24 = .ok (.goto 9, 3) := by decide +kernel
theorem dX6_wouldBreak_27 : decode cX6_wouldBreak 27 = .ok (.aload_n 0, 1) := by decide +kernel
theorem dX6_wouldBreak_28 : decode cX6_wouldBreak 28 = .ok (.iload_n 1, 1) := by decide +kernel
theorem dX6_wouldBreak_29 : decode cX6_wouldBreak 29 = .ok (.iconst 0, 1) := by decide +kernel
theorem dX6_wouldBreak_30 : decode cX6_wouldBreak 30 = .ok (.invokevirtual 159, 3) := by decide +kernel
theorem dX6_wouldBreak_33 : decode cX6_wouldBreak 33 = .ok (.ireturn, 1) := by decide +kernel
theorem dX6_programmeBreaks_0 : decode cX6_programmeBreaks 0 = .ok (.aload_n 0, 1) := by decide +kernel
theorem dX6_programmeBreaks_1 : decode cX6_programmeBreaks 1 = .ok (.iconst 0, 1) := by decide +kernel
theorem dX6_programmeBreaks_2 : decode cX6_programmeBreaks 2 = .ok (.putfield 39, 3) := by decide +kernel
theorem dX6_programmeBreaks_5 : decode cX6_programmeBreaks 5 = .ok (.aload_n 0, 1) := by decide +kernel
theorem dX6_programmeBreaks_6 : decode cX6_programmeBreaks 6 = .ok (.getfield 9, 3) := by decide +kernel
theorem dX6_programmeBreaks_9 : decode cX6_programmeBreaks 9 = .ok (.bipush 6, 2) := by decide +kernel
theorem dX6_programmeBreaks_11 : decode cX6_programmeBreaks 11 = .ok (.iaload, 1) := by decide +kernel
theorem dX6_programmeBreaks_12 : decode cX6_programmeBreaks 12 = .ok (.ifCond .ne 5, 3) := by decide +kernel
theorem dX6_programmeBreaks_15 : decode cX6_programmeBreaks 15 = .ok (.iconst 0, 1) := by decide +kernel
theorem dX6_programmeBreaks_16 : decode cX6_programmeBreaks 16 = .ok (.ireturn, 1) := by decide +kernel
theorem dX6_programmeBreaks_17 : decode cX6_programmeBreaks 17 = .ok (.aload_n 0, 1) := by decide +kernel
