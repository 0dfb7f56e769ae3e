theorem dX3_init_0 : decode cX3_init 0 = .ok (.aload_n 0, 1) := by decide +kernel
theorem dX3_init_1 : decode cX3_init 1 = .ok (.invokespecial 3, 3) := by decide +kernel
theorem dX3_init_4 : decode cX3_init 4 = .ok (.aload_n 0, 1) := by decide +kernel
theorem dX3_init_5 : decode cX3_init 5 = .ok (.iconst 0, 1) := by decide +kernel
theorem dX3_init_6 : decode cX3_init 6 = .ok (.putfield 9, 3) := by decide +kernel
theorem dX3_init_9 : decode cX3_init 9 = .ok (.aload_n 0, 1) := by decide +kernel
theorem dX3_init_10 : decode cX3_init 10 = .ok (.iconst 0, 1) := by decide +kernel
theorem dX3_init_11 : decode cX3_init 11 = .ok (.putfield 15, 3) := by decide +kernel
theorem dX3_init_14 : decode cX3_init 14 = .ok (.aload_n 0, 1) := by decide +kernel
theorem dX3_init_15 : decode cX3_init 15 = .ok (.iconst 0, 1) := by decide +kernel
theorem dX3_init_16 : decode cX3_init 16 = .ok (.putfield 18, 3) := by decide +kernel
theorem dX3_init_19 : decode cX3_init 19 = .ok (.aload_n 0, 1) := by decide +kernel
theorem dX3_init_20 : decode cX3_init 20 = .ok (.iconst 0, 1) := by decide +kernel
theorem dX3_init_21 : decode cX3_init 21 = .ok (.putfield 21, 3) := by decide +kernel
theorem dX3_init_24 : decode cX3_init 24 = .ok (.aload_n 0, 1) := by decide +kernel
theorem dX3_init_25 : decode cX3_init 25 = .ok (.iconst 0, 1) := by decide +kernel
theorem dX3_init_26 : decode cX3_init 26 = .ok (.putfield 24, 3) := by decide +kernel
theorem dX3_init_29 : decode cX3_init 29 = .ok (.aload_n 0, 1) := by decide +kernel
theorem dX3_init_30 : decode cX3_init 30 = .ok (.iconst 0, 1) := by decide +kernel
theorem dX3_init_31 : decode cX3_init 31 = .ok (.putfield 28, 3) := by decide +kernel
theorem dX3_init_34 : decode cX3_init 34 = .ok (.aload_n 0, 1) := by decide +kernel
theorem dX3_init_35 : decode cX3_init 35 = .ok (.iconst 0, 1) := by decide +kernel
theorem dX3_init_36 : decode cX3_init 36 = .ok (.putfield 31, 3) := by decide +kernel
theorem dX3_init_39 : decode cX3_init 39 = .ok (.return_, 1) := by decide +kernel
theorem dX3_begin_0 : decode cX3_begin 0 = .ok (.aload_n 0, 1) := by decide +kernel
theorem dX3_begin_1 : decode cX3_begin 1 = .ok (.iload_n 1, 1) := by decide +kernel
theorem dX3_begin_2 : decode cX3_begin 2 = .ok (.putfield 9, 3) := by decide +kernel
theorem dX3_begin_5 : decode cX3_begin 5 = .ok (.aload_n 0, 1) := by decide +kernel
theorem dX3_begin_6 : decode cX3_begin 6 = .ok (.iload_n 2, 1) := by decide +kernel
theorem dX3_begin_7 : decode cX3_begin 7 = .ok (.putfield 15, 3) := by decide +kernel
theorem dX3_begin_10 : decode cX3_begin 10 = .ok (.aload_n 0, 1) := by decide +kernel
theorem dX3_begin_11 : decode cX3_begin 11 = .ok (.iload_n 3, 1) := by decide +kernel
theorem dX3_begin_12 : decode cX3_begin 12 = .ok (.putfield 18, 3) := by decide +kernel
theorem dX3_begin_15 : decode cX3_begin 15 = .ok (.aload_n 0, 1) := by decide +kernel
theorem dX3_begin_16 : decode cX3_begin 16 = .ok (.iconst 0, 1) := by decide +kernel
theorem dX3_begin_17 : decode cX3_begin 17 = .ok (.putfield 21, 3) := by decide +kernel
theorem dX3_begin_20 : decode cX3_begin 20 = .ok (.aload_n 0, 1) := by decide +kernel
theorem dX3_begin_21 : decode cX3_begin 21 = .ok (.iconst 0, 1) := by decide +kernel
theorem dX3_begin_22 : decode cX3_begin 22 = .ok (.putfield 24, 3) := by decide +kernel
theorem dX3_begin_25 : decode cX3_begin 25 = .ok (.aload_n 0, 1) := by decide +kernel
theorem dX3_begin_26 : decode cX3_begin 26 = .ok (.iconst 0, 1) := by decide +kernel
theorem dX3_begin_27 : decode cX3_begin 27 = .ok (.putfield 28, 3) := by decide +kernel
theorem dX3_begin_30 : decode cX3_begin 30 = .ok (.aload_n 0, 1) := by decide +kernel
theorem dX3_begin_31 : decode cX3_begin 31 = .ok (.iconst 0, 1) := by decide +kernel
theorem dX3_begin_32 : decode cX3_begin 32 = .ok (.putfield 31, 3) := by decide +kernel
theorem dX3_begin_35 : decode cX3_begin 35 = .ok (.return_, 1) := by decide +kernel
theorem dX3_copyFrom_0 : decode cX3_copyFrom 0 = .ok (.aload_n 0, 1) := by decide +kernel
theorem dX3_copyFrom_1 : decode cX3_copyFrom 1 = .ok (.aload_n 1, 1) := by decide +kernel
theorem dX3_copyFrom_2 : decode cX3_copyFrom 2 = .ok (.getfield 9, 3) := by decide +kernel
theorem dX3_copyFrom_5 : decode cX3_copyFrom 5 = .ok (.putfield 9, 3) := by decide +kernel
theorem dX3_copyFrom_8 : decode cX3_copyFrom 8 = .ok (.aload_n 0, 1) := by decide +kernel
theorem dX3_copyFrom_9 : decode cX3_copyFrom 9 = .ok (.aload_n 1, 1) := by decide +kernel
theorem dX3_copyFrom_10 : decode cX3_copyFrom 10 = .ok (.getfield 15, 3) := by decide +kernel
theorem dX3_copyFrom_13 : decode cX3_copyFrom 13 = .ok (.putfield 15, 3) := by decide +kernel
theorem dX3_copyFrom_16 : decode cX3_copyFrom 16 = .ok (.aload_n 0, 1) := by decide +kernel
theorem dX3_copyFrom_17 : decode cX3_copyFrom 17 = .ok (.aload_n 1, 1) := by decide +kernel
theorem dX3_copyFrom_18 : decode cX3_copyFrom 18 = .ok (.getfield 18, 3) := by decide +kernel
theorem dX3_copyFrom_21 : decode cX3_copyFrom 21 = .ok (.putfield 18, 3) := by decide +kernel
theorem dX3_copyFrom_24 : decode cX3_copyFrom 24 = .ok (.aload_n 0, 1) := by decide +kernel
theorem dX3_copyFrom_25 : decode cX3_copyFrom 25 = .ok (.aload_n 1, 1) := by decide +kernel
theorem dX3_copyFrom_26 : decode cX3_copyFrom 26 = .ok (.getfield 21, 3) := by decide +kernel
theorem dX3_copyFrom_29 : decode cX3_copyFrom 29 = .ok (.putfield 21, 3) := by decide +kernel
theorem dX3_copyFrom_32 : decode cX3_copyFrom 32 = .ok (.aload_n 0, 1) := by decide +kernel
theorem dX3_copyFrom_33 : decode cX3_copyFrom 33 = .ok (.aload_n 1, 1) := by decide +kernel
theorem dX3_copyFrom_34 : decode cX3_copyFrom 34 = .ok (.getfield 24, 3) := by decide +kernel
theorem dX3_copyFrom_37 : decode cX3_copyFrom 37 = .ok (.putfield 24, 3) := by decide +kernel
theorem dX3_copyFrom_40 : decode cX3_copyFrom 40 = .ok (.aload_n 0, 1) := by decide +kernel
theorem dX3_copyFrom_41 : decode cX3_copyFrom 41 = .ok (.aload_n 1, 1) := by decide +kernel
theorem dX3_copyFrom_42 : decode cX3_copyFrom 42 = .ok (.getfield 28, 3) := by decide +kernel
theorem dX3_copyFrom_45 : decode cX3_copyFrom 45 = .ok (.putfield 28, 3) := by decide +kernel
theorem dX3_copyFrom_48 : decode cX3_copyFrom 48 = .ok (.aload_n 0, 1) := by decide +kernel
theorem dX3_copyFrom_49 : decode cX3_copyFrom 49 = .ok (.aload_n 1, 1) := by decide +kernel
theorem dX3_copyFrom_50 : decode cX3_copyFrom 50 = .ok (.getfield 31, 3) := by decide +kernel
theorem dX3_copyFrom_53 : decode cX3_copyFrom 53 = .ok (.putfield 31, 3) := by decide +kernel
theorem dX3_copyFrom_56 : decode cX3_copyFrom 56 = .ok (.return_, 1) := by decide +kernel
theorem dX3_shakeCup_0 : decode cX3_shakeCup 0 = .ok (.aload_n 0, 1) := by decide +kernel
theorem dX3_shakeCup_1 : decode cX3_shakeCup 1 = .ok (.getfield 24, 3) := by decide +kernel
theorem dX3_shakeCup_4 : decode cX3_shakeCup 4 = .ok (.ifCond .eq 5, 3) := by decide +kernel
theorem dX3_shakeCup_7 : decode cX3_shakeCup 7 = .ok (.iconst 0, 1) := by decide +kernel
theorem dX3_shakeCup_8 : decode cX3_shakeCup 8 = .ok (.ireturn, 1) := by decide +kernel
theorem dX3_shakeCup_9 : decode cX3_shakeCup 9 = .ok (.iload_n 1, 1) := by decide +kernel
theorem dX3_shakeCup_10 : decode cX3_shakeCup 10 = .ok (.aload_n 0, 1) := by decide +kernel
theorem dX3_shakeCup_11 : decode cX3_shakeCup 11 = .ok (.getfield 18, 3) := by decide +kernel
theorem dX3_shakeCup_14 : decode cX3_shakeCup 14 = .ok (.if_icmp .lt 55, 3) := by decide +kernel
theorem dX3_shakeCup_17 : decode cX3_shakeCup 17 = .ok (.aload_n 0, 1) := by decide +kernel
theorem dX3_shakeCup_18 : decode cX3_shakeCup 18 = .ok (.dup, 1) := by decide +kernel
theorem dX3_shakeCup_19 : decode cX3_shakeCup 19 = .ok (.getfield 21, 3) := by decide +kernel
theorem dX3_shakeCup_22 : decode cX3_shakeCup 22 = .ok (.iconst 1, 1) := by decide +kernel
theorem dX3_shakeCup_23 : decode cX3_shakeCup 23 = .ok (.iadd, 1) := by decide +kernel
theorem dX3_shakeCup_24 : decode cX3_shakeCup 24 = .ok (.putfield 21, 3) := by decide +kernel
theorem dX3_shakeCup_27 : decode cX3_shakeCup 27 = .ok (.aload_n 0, 1) := by decide +kernel
theorem dX3_shakeCup_28 : decode cX3_shakeCup 28 = .ok (.aload_n 0, 1) := by decide +kernel
theorem dX3_shakeCup_29 : decode cX3_shakeCup 29 = .ok (.getfield 18, 3) := by decide +kernel
theorem dX3_shakeCup_32 : decode cX3_shakeCup 32 = .ok (.iconst 1, 1) := by decide +kernel
theorem dX3_shakeCup_33 : decode cX3_shakeCup 33 = .ok (.if_icmp .le 12, 3) := by decide +kernel
theorem dX3_shakeCup_36 : decode cX3_shakeCup 36 = .ok (.aload_n 0, 1) := by decide +kernel
theorem dX3_shakeCup_37 : decode cX3_shakeCup 37 = .ok (.getfield 18, 3) := by decide +kernel
theorem dX3_shakeCup_40 : decode cX3_shakeCup 40 = .ok (.iconst 1, 1) := by decide +kernel
theorem dX3_shakeCup_41 : decode cX3_shakeCup 41 = .ok (.isub, 1) := by decide +kernel
theorem dX3_shakeCup_42 : decode cX3_shakeCup 42 = .ok (.goto 4, 3) := by decide +kernel
theorem dX3_shakeCup_45 : decode cX3_shakeCup 45 = .ok (.iconst 1, 1) := by decide +kernel
theorem dX3_shakeCup_46 : decode cX3_shakeCup 46 = .ok (.putfield 18, 3) := by decide +kernel
theorem dX3_shakeCup_49 : decode cX3_shakeCup 49 = .ok (.aload_n 0, 1) := by decide +kernel
theorem dX3_shakeCup_50 : decode cX3_shakeCup 50 = .ok (.aload_n 0, 1) := by decide +kernel
theorem dX3_shakeCup_51 : decode cX3_shakeCup 51 = .ok (.getfield 21, 3) := by decide +kernel
theorem dX3_shakeCup_54 : decode cX3_shakeCup 54 = .ok (.iconst 3, 1) := by decide +kernel
theorem dX3_shakeCup_55 : decode cX3_shakeCup 55 = .ok (.if_icmp .lt 7, 3) := by decide +kernel
theorem dX3_shakeCup_58 : decode cX3_shakeCup 58 = .ok (.iconst 1, 1) := by decide +kernel
theorem dX3_shakeCup_59 : decode cX3_shakeCup 59 = .ok (.goto 4, 3) := by decide +kernel
theorem dX3_shakeCup_62 : decode cX3_shakeCup 62 = .ok (.iconst 0, 1) := by decide +kernel
theorem dX3_shakeCup_63 : decode cX3_shakeCup 63 = .ok (.putfield 24, 3) := by decide +kernel
theorem dX3_shakeCup_66 : decode cX3_shakeCup 66 = .ok (.goto 23, 3) := by decide +kernel
theorem dX3_shakeCup_69 : decode cX3_shakeCup 69 = .ok (.iconst 2, 1) := by decide +kernel
theorem dX3_shakeCup_70 : decode cX3_shakeCup 70 = .ok (.iload_n 1, 1) := by decide +kernel
theorem dX3_shakeCup_71 : decode cX3_shakeCup 71 = .ok (.imul, 1) := by decide +kernel
theorem dX3_shakeCup_72 : decode cX3_shakeCup 72 = .ok (.aload_n 0, 1) := by decide +kernel
theorem dX3_shakeCup_73 : decode cX3_shakeCup 73 = .ok (.getfield 18, 3) := by decide +kernel
theorem dX3_shakeCup_76 : decode cX3_shakeCup 76 = .ok (.if_icmp .lt 13, 3) := by decide +kernel
theorem dX3_shakeCup_79 : decode cX3_shakeCup 79 = .ok (.aload_n 0, 1) := by decide +kernel
theorem dX3_shakeCup_80 : decode cX3_shakeCup 80 = .ok (.dup, 1) := by decide +kernel
theorem dX3_shakeCup_81 : decode cX3_shakeCup 81 = .ok (.getfield 31, 3) := by decide +kernel
theorem dX3_shakeCup_84 : decode cX3_shakeCup 84 = .ok (.iconst 1, 1) := by decide +kernel
theorem dX3_shakeCup_85 : decode cX3_shakeCup 85 = .ok (.iadd, 1) := by decide +kernel
theorem dX3_shakeCup_86 : decode cX3_shakeCup 86 = .ok (.putfield 31, 3) := by decide +kernel
theorem dX3_shakeCup_89 : decode cX3_shakeCup 89 = .ok (.aload_n 0, 1) := by decide +kernel
theorem dX3_shakeCup_90 : decode cX3_shakeCup 90 = .ok (.getfield 24, 3) := by decide +kernel
theorem dX3_shakeCup_93 : decode cX3_shakeCup 93 = .ok (.ireturn, 1) := by decide +kernel
theorem dX3_shakeLamp_0 : decode cX3_shakeLamp 0 = .ok (.aload_n 0, 1) := by decide +kernel
theorem dX3_shakeLamp_1 : decode cX3_shakeLamp 1 = .ok (.getfield 24, 3) := by decide +kernel
theorem dX3_shakeLamp_4 : decode cX3_shakeLamp 4 = .ok (.ifCond .eq 5, 3) := by decide +kernel
theorem dX3_shakeLamp_7 : decode cX3_shakeLamp 7 = .ok (.iconst 0, 1) := by decide +kernel
theorem dX3_shakeLamp_8 : decode cX3_shakeLamp 8 = .ok (.ireturn, 1) := by decide +kernel
theorem dX3_shakeLamp_9 : decode cX3_shakeLamp 9 = .ok (.aload_n 0, 1) := by decide +kernel
theorem dX3_shakeLamp_10 : decode cX3_shakeLamp 10 = .ok (.aload_n 0, 1) := by decide +kernel
theorem dX3_shakeLamp_11 : decode cX3_shakeLamp 11 = .ok (.iload_n 1, 1) := by decide +kernel
theorem dX3_shakeLamp_12 : decode cX3_shakeLamp 12 = .ok (.iload_n 2, 1) := by decide +kernel
theorem dX3_shakeLamp_13 : decode cX3_shakeLamp 13 = .ok (.invokevirtual 34, 3) := by decide +kernel
theorem dX3_shakeLamp_16 : decode cX3_shakeLamp 16 = .ok (.putfield 21, 3) := by decide +kernel
theorem dX3_shakeLamp_19 : decode cX3_shakeLamp 19 = .ok (.aload_n 0, 1) := by decide +kernel
theorem dX3_shakeLamp_20 : decode cX3_shakeLamp 20 = .ok (.aload_n 0, 1) := by decide +kernel
theorem dX3_shakeLamp_21 : decode cX3_shakeLamp 21 = .ok (.getfield 21, 3) := by decide +kernel
theorem dX3_shakeLamp_24 : decode cX3_shakeLamp 24 = .ok (.bipush 20, 2) := by decide +kernel
theorem dX3_shakeLamp_26 : decode cX3_shakeLamp 26 = .ok (.if_icmp .le 7, 3) := by decide +kernel
theorem dX3_shakeLamp_29 : decode cX3_shakeLamp 29 = .ok (.iconst 1, 1) := by decide +kernel
theorem dX3_shakeLamp_30 : decode cX3_shakeLamp 30 = .ok (.goto 4, 3) := by decide +kernel
theorem dX3_shakeLamp_33 : decode cX3_shakeLamp 33 = .ok (.iconst 0, 1) := by decide +kernel
theorem dX3_shakeLamp_34 : decode cX3_shakeLamp 34 = .ok (.putfield 24, 3) := by decide +kernel
theorem dX3_shakeLamp_37 : decode cX3_shakeLamp 37 = .ok (.aload_n 0, 1) := by decide +kernel
theorem dX3_shakeLamp_38 : decode cX3_shakeLamp 38 = .ok (.getfield 24, 3) := by decide +kernel
theorem dX3_shakeLamp_41 : decode cX3_shakeLamp 41 = .ok (.ireturn, 1) := by decide +kernel
theorem dX3_swingAfter_0 : decode cX3_swingAfter 0 = .ok (.aload_n 0, 1) := by decide +kernel
theorem dX3_swingAfter_1 : decode cX3_swingAfter 1 = .ok (.getfield 21, 3) := by decide +kernel
theorem dX3_swingAfter_4 : decode cX3_swingAfter 4 = .ok (.ifCond .le 12, 3) := by decide +kernel
theorem dX3_swingAfter_7 : decode cX3_swingAfter 7 = .ok (.aload_n 0, 1) := by decide +kernel
theorem dX3_swingAfter_8 : decode cX3_swingAfter 8 = .ok (.getfield 21, 3) := by decide +kernel
theorem dX3_swingAfter_11 : decode cX3_swingAfter 11 = .ok (.iconst 1, 1) := by decide +kernel
theorem dX3_swingAfter_12 : decode cX3_swingAfter 12 = .ok (.isub, 1) := by decide +kernel
theorem dX3_swingAfter_13 : decode cX3_swingAfter 13 = .ok (.goto 4, 3) := by decide +kernel
theorem dX3_swingAfter_16 : decode cX3_swingAfter 16 = .ok (.iconst 0, 1) := by decide +kernel
theorem dX3_swingAfter_17 : decode cX3_swingAfter 17 = .ok (.istore_n 3, 1) := by decide +kernel
theorem dX3_swingAfter_18 : decode cX3_swingAfter 18 = .ok (.iload_n 1, 1) := by decide +kernel
theorem dX3_swingAfter_19 : decode cX3_swingAfter 19 = .ok (.ifCond .le 17, 3) := by decide +kernel
theorem dX3_swingAfter_22 : decode cX3_swingAfter 22 = .ok (.aload_n 0, 1) := by decide +kernel
theorem dX3_swingAfter_23 : decode cX3_swingAfter 23 = .ok (.getfield 21, 3) := by decide +kernel
theorem dX3_swingAfter_26 : decode cX3_swingAfter 26 = .ok (.iload_n 1, 1) := by decide +kernel
theorem dX3_swingAfter_27 : decode cX3_swingAfter 27 = .ok (.iadd, 1) := by decide +kernel
theorem dX3_swingAfter_28 : decode cX3_swingAfter 28 = .ok (.aload_n 0, 1) := by decide +kernel
theorem dX3_swingAfter_29 : decode cX3_swingAfter 29 = .ok (.getfield 18, 3) := by decide +kernel
theorem dX3_swingAfter_32 : decode cX3_swingAfter 32 = .ok (.iload_n 1, 1) := by decide +kernel
theorem dX3_swingAfter_33 : decode cX3_swingAfter 33 = .ok (.irem, 1) := by decide +kernel
theorem dX3_swingAfter_34 : decode cX3_swingAfter 34 = .ok (.iadd, 1) := by decide +kernel
theorem dX3_swingAfter_35 : decode cX3_swingAfter 35 = .ok (.istore_n 3, 1) := by decide +kernel
theorem dX3_swingAfter_36 : decode cX3_swingAfter 36 = .ok (.aload_n 0, 1) := by decide +kernel
theorem dX3_swingAfter_37 : decode cX3_swingAfter 37 = .ok (.getfield 28, 3) := by decide +kernel
theorem dX3_swingAfter_40 : decode cX3_swingAfter 40 = .ok (.iload_n 2, 1) := by decide +kernel
theorem dX3_swingAfter_41 : decode cX3_swingAfter 41 = .ok (.if_icmp .ne 9, 3) := by decide +kernel
theorem dX3_swingAfter_44 : decode cX3_swingAfter 44 = .ok (.iload_n 3, 1) := by decide +kernel
theorem dX3_swingAfter_45 : decode cX3_swingAfter 45 = .ok (.iconst 2, 1) := by decide +kernel
theorem dX3_swingAfter_46 : decode cX3_swingAfter 46 = .ok (.idiv, 1) := by decide +kernel
theorem dX3_swingAfter_47 : decode cX3_swingAfter 47 = .ok (.goto 4, 3) := by decide +kernel
theorem dX3_swingAfter_50 : decode cX3_swingAfter 50 = .ok (.iload_n 3, 1) := by decide +kernel
theorem dX3_swingAfter_51 : decode cX3_swingAfter 51 = .ok (.ireturn, 1) := by decide +kernel
theorem dX3_judge_0 : decode cX3_judge 0 = .ok (.iload_n 2, 1) := by decide +kernel
theorem dX3_judge_1 : decode cX3_judge 1 = .ok (.ifCond .eq 26, 3) := by decide +kernel
theorem dX3_judge_4 : decode cX3_judge 4 = .ok (.aload_n 0, 1) := by decide +kernel
theorem dX3_judge_5 : decode cX3_judge 5 = .ok (.aload_n 0, 1) := by decide +kernel
theorem dX3_judge_6 : decode cX3_judge 6 = .ok (.getfield 18, 3) := by decide +kernel
theorem dX3_judge_9 : decode cX3_judge 9 = .ok (.ifCond .le 12, 3) := by decide +kernel
theorem dX3_judge_12 : decode cX3_judge 12 = .ok (.aload_n 0, 1) := by decide +kernel
theorem dX3_judge_13 : decode cX3_judge 13 = .ok (.getfield 18, 3) := by decide +kernel
theorem dX3_judge_16 : decode cX3_judge 16 = .ok (.iconst 1, 1) := by decide +kernel
theorem dX3_judge_17 : decode cX3_judge 17 = .ok (.isub, 1) := by decide +kernel
theorem dX3_judge_18 : decode cX3_judge 18 = .ok (.goto 4, 3) := by decide +kernel
theorem dX3_judge_21 : decode cX3_judge 21 = .ok (.iconst 0, 1) := by decide +kernel
theorem dX3_judge_22 : decode cX3_judge 22 = .ok (.putfield 18, 3) := by decide +kernel
theorem dX3_judge_25 : decode cX3_judge 25 = .ok (.iconst 0, 1) := by decide +kernel
theorem dX3_judge_26 : decode cX3_judge 26 = .ok (.ireturn, 1) := by decide +kernel
theorem dX3_judge_27 : decode cX3_judge 27 = .ok (.iconst 5, 1) := by decide +kernel
theorem dX3_judge_28 : decode cX3_judge 28 = .ok (.aload_n 0, 1) := by decide +kernel
theorem dX3_judge_29 : decode cX3_judge 29 = .ok (.getfield 18, 3) := by decide +kernel
theorem dX3_judge_32 : decode cX3_judge 32 = .ok (.iload_n 1, 1) := by decide +kernel
theorem dX3_judge_33 : decode cX3_judge 33 = .ok (.isub, 1) := by decide +kernel
theorem dX3_judge_34 : decode cX3_judge 34 = .ok (.invokestatic 38, 3) := by decide +kernel
theorem dX3_judge_37 : decode cX3_judge 37 = .ok (.isub, 1) := by decide +kernel
theorem dX3_judge_38 : decode cX3_judge 38 = .ok (.istore_n 3, 1) := by decide +kernel
theorem dX3_judge_39 : decode cX3_judge 39 = .ok (.iload_n 3, 1) := by decide +kernel
theorem dX3_judge_40 : decode cX3_judge 40 = .ok (.ifCond .ge 5, 3) := by decide +kernel
theorem dX3_judge_43 : decode cX3_judge 43 = .ok (.iconst 0, 1) := by decide +kernel
theorem dX3_judge_44 : decode cX3_judge 44 = .ok (.istore_n 3, 1) := by decide +kernel
theorem dX3_judge_45 : decode cX3_judge 45 = .ok (.aload_n 0, 1) := by decide +kernel
theorem dX3_judge_46 : decode cX3_judge 46 = .ok (.dup, 1) := by decide +kernel
theorem dX3_judge_47 : decode cX3_judge 47 = .ok (.getfield 31, 3) := by decide +kernel
theorem dX3_judge_50 : decode cX3_judge 50 = .ok (.iload_n 3, 1) := by decide +kernel
theorem dX3_judge_51 : decode cX3_judge 51 = .ok (.iadd, 1) := by decide +kernel
theorem dX3_judge_52 : decode cX3_judge 52 = .ok (.putfield 31, 3) := by decide +kernel
theorem dX3_judge_55 : decode cX3_judge 55 = .ok (.iload_n 3, 1) := by decide +kernel
theorem dX3_judge_56 : decode cX3_judge 56 = .ok (.ireturn, 1) := by decide +kernel
theorem dX3_wouldBreakBy_0 : decode cX3_wouldBreakBy 0 = .ok (.aload_n 0, 1) := by decide +kernel
theorem dX3_wouldBreakBy_1 : decode cX3_wouldBreakBy 1 = .ok (.getfield 9, 3) := by decide +kernel
theorem dX3_wouldBreakBy_4 : decode cX3_wouldBreakBy 4 = .ok (.iconst 1, 1) := by decide +kernel
theorem dX3_wouldBreakBy_5 : decode cX3_wouldBreakBy 5 = .ok (.if_icmp .ne 25, 3) := by decide +kernel
theorem dX3_wouldBreakBy_8 : decode cX3_wouldBreakBy 8 = .ok (.aload_n 0, 1) := by decide +kernel
theorem dX3_wouldBreakBy_9 : decode cX3_wouldBreakBy 9 = .ok (.getfield 21, 3) := by decide +kernel
theorem dX3_wouldBreakBy_12 : decode cX3_wouldBreakBy 12 = .ok (.iconst 2, 1) := by decide +kernel
theorem dX3_wouldBreakBy_13 : decode cX3_wouldBreakBy 13 = .ok (.if_icmp .ne 15, 3) := by decide +kernel
theorem dX3_wouldBreakBy_16 : decode cX3_wouldBreakBy 16 = .ok (.iload_n 1, 1) := by decide +kernel
theorem dX3_wouldBreakBy_17 : decode cX3_wouldBreakBy 17 = .ok (.aload_n 0, 1) := by decide +kernel
theorem dX3_wouldBreakBy_18 : decode cX3_wouldBreakBy 18 = .ok (.getfield 18, 3) := by decide +kernel
theorem dX3_wouldBreakBy_21 : decode cX3_wouldBreakBy 21 = .ok (.if_icmp .lt 7, 3) := by decide +kernel
theorem dX3_wouldBreakBy_24 : decode cX3_wouldBreakBy 24 = .ok (.iconst 1, 1) := by decide +kernel
theorem dX3_wouldBreakBy_25 : decode cX3_wouldBreakBy 25 = .ok (.goto 4, 3) := by decide +kernel
theorem dX3_wouldBreakBy_28 : decode cX3_wouldBreakBy 28 = .ok (.iconst 0, 1) := by decide +kernel
theorem dX3_wouldBreakBy_29 : decode cX3_wouldBreakBy 29 = .ok (.ireturn, 1) := by decide +kernel
theorem dX3_wouldBreakBy_30 : decode cX3_wouldBreakBy 30 = .ok (.aload_n 0, 1) := by decide +kernel
theorem dX3_wouldBreakBy_31 : decode cX3_wouldBreakBy 31 = .ok (.getfield 9, 3) := by decide +kernel
theorem dX3_wouldBreakBy_34 : decode cX3_wouldBreakBy 34 = .ok (.iconst 2, 1) := by decide +kernel
theorem dX3_wouldBreakBy_35 : decode cX3_wouldBreakBy 35 = .ok (.if_icmp .ne 27, 3) := by decide +kernel
theorem dX3_wouldBreakBy_38 : decode cX3_wouldBreakBy 38 = .ok (.aload_n 0, 1) := by decide +kernel
theorem dX3_wouldBreakBy_39 : decode cX3_wouldBreakBy 39 = .ok (.getfield 21, 3) := by decide +kernel
theorem dX3_wouldBreakBy_42 : decode cX3_wouldBreakBy 42 = .ok (.bipush 20, 2) := by decide +kernel
theorem dX3_wouldBreakBy_44 : decode cX3_wouldBreakBy 44 = .ok (.if_icmp .gt 18, 3) := by decide +kernel
theorem dX3_wouldBreakBy_47 : decode cX3_wouldBreakBy 47 = .ok (.aload_n 0, 1) := by decide +kernel
theorem dX3_wouldBreakBy_48 : decode cX3_wouldBreakBy 48 = .ok (.iload_n 1, 1) := by decide +kernel
theorem dX3_wouldBreakBy_49 : decode cX3_wouldBreakBy 49 = .ok (.iload_n 2, 1) := by decide +kernel
theorem dX3_wouldBreakBy_50 : decode cX3_wouldBreakBy 50 = .ok (.invokevirtual 34, 3) := by decide +kernel
theorem dX3_wouldBreakBy_53 : decode cX3_wouldBreakBy 53 = .ok (.bipush 20, 2) := by decide +kernel
theorem dX3_wouldBreakBy_55 : decode cX3_wouldBreakBy 55 = .ok (.if_icmp .le 7, 3) := by decide +kernel
theorem dX3_wouldBreakBy_58 : decode cX3_wouldBreakBy 58 = .ok (.iconst 1, 1) := by decide +kernel
theorem dX3_wouldBreakBy_59 : decode cX3_wouldBreakBy 59 = .ok (.goto 4, 3) := by decide +kernel
theorem dX3_wouldBreakBy_62 : decode cX3_wouldBreakBy 62 = .ok (.iconst 0, 1) := by decide +kernel
theorem dX3_wouldBreakBy_63 : decode cX3_wouldBreakBy 63 = .ok (.ireturn, 1) := by decide +kernel
theorem dX3_isDamageRight_0 : decode cX3_isDamageRight 0 = .ok (.aload_n 0, 1) := by decide +kernel
theorem dX3_isDamageRight_1 : decode cX3_isDamageRight 1 = .ok (.getfield 9, 3) := by decide +kernel
theorem dX3_isDamageRight_4 : decode cX3_isDamageRight 4 = .ok (.iconst 1, 1) := by decide +kernel
theorem dX3_isDamageRight_5 : decode cX3_isDamageRight 5 = .ok (.if_icmp .ne 29, 3) := by decide +kernel
theorem dX3_isDamageRight_8 : decode cX3_isDamageRight 8 = .ok (.aload_n 0, 1) := by decide +kernel
theorem dX3_isDamageRight_9 : decode cX3_isDamageRight 9 = .ok (.getfield 24, 3) := by decide +kernel
theorem dX3_isDamageRight_12 : decode cX3_isDamageRight 12 = .ok (.aload_n 0, 1) := by decide +kernel
theorem dX3_isDamageRight_13 : decode cX3_isDamageRight 13 = .ok (.getfield 21, 3) := by decide +kernel
theorem dX3_isDamageRight_16 : decode cX3_isDamageRight 16 = .ok (.iconst 3, 1) := by decide +kernel
theorem dX3_isDamageRight_17 : decode cX3_isDamageRight 17 = .ok (.if_icmp .ne 7, 3) := by decide +kernel
theorem dX3_isDamageRight_20 : decode cX3_isDamageRight 20 = .ok (.iconst 1, 1) := by decide +kernel
theorem dX3_isDamageRight_21 : decode cX3_isDamageRight 21 = .ok (.goto 4, 3) := by decide +kernel
theorem dX3_isDamageRight_24 : decode cX3_isDamageRight 24 = .ok (.iconst 0, 1) := by decide +kernel
theorem dX3_isDamageRight_25 : decode cX3_isDamageRight 25 = .ok (.if_icmp .ne 7, 3) := by decide +kernel
theorem dX3_isDamageRight_28 : decode cX3_isDamageRight 28 = .ok (.iconst 1, 1) := by decide +kernel
theorem dX3_isDamageRight_29 : decode cX3_isDamageRight 29 = .ok (.goto 4, 3) := by decide +kernel
theorem dX3_isDamageRight_32 : decode cX3_isDamageRight 32 = .ok (.iconst 0, 1) := by decide +kernel
theorem dX3_isDamageRight_33 : decode cX3_isDamageRight 33 = .ok (.ireturn, 1) := by decide +kernel
theorem dX3_isDamageRight_34 : decode cX3_isDamageRight 34 = .ok (.aload_n 0, 1) := by decide +kernel
theorem dX3_isDamageRight_35 : decode cX3_isDamageRight 35 = .ok (.getfield 9, 3) := by decide +kernel
theorem dX3_isDamageRight_38 : decode cX3_isDamageRight 38 = .ok (.iconst 2, 1) := by decide +kernel
theorem dX3_isDamageRight_39 : decode cX3_isDamageRight 39 = .ok (.if_icmp .ne 24, 3) := by decide +kernel
theorem dX3_isDamageRight_42 : decode cX3_isDamageRight 42 = .ok (.aload_n 0, 1) := by decide +kernel
theorem dX3_isDamageRight_43 : decode cX3_isDamageRight 43 = .ok (.getfield 24, 3) := by decide +kernel
theorem dX3_isDamageRight_46 : decode cX3_isDamageRight 46 = .ok (.aload_n 0, 1) := by decide +kernel
theorem dX3_isDamageRight_47 : decode cX3_isDamageRight 47 = .ok (.getfield 21, 3) := by decide +kernel
theorem dX3_isDamageRight_50 : decode cX3_isDamageRight 50 = .ok (.bipush 20, 2) := by decide +kernel
theorem dX3_isDamageRight_52 : decode cX3_isDamageRight 52 = .ok (.if_icmp .le 7, 3) := by decide +kernel
theorem dX3_isDamageRight_55 : decode cX3_isDamageRight 55 = .ok (.iconst 1, 1) := by decide +kernel
theorem dX3_isDamageRight_56 : decode cX3_isDamageRight 56 = .ok (.goto 4, 3) := by decide +kernel
theorem dX3_isDamageRight_59 : decode cX3_isDamageRight 59 = .ok (.iconst 0, 1) := by decide +kernel
theorem dX3_isDamageRight_60 : decode cX3_isDamageRight 60 = .ok (.if_icmp .ne 7, 3) := by decide +kernel
theorem dX3_isDamageRight_63 : decode cX3_isDamageRight 63 = .ok (.iconst 1, 1) := by decide +kernel
theorem dX3_isDamageRight_64 : decode cX3_isDamageRight 64 = .ok (.goto 4, 3) := by decide +kernel
theorem dX3_isDamageRight_67 : decode cX3_isDamageRight 67 = .ok (.iconst 0, 1) := by decide +kernel
theorem dX3_isDamageRight_68 : decode cX3_isDamageRight 68 = .ok (.ireturn, 1) := by decide +kernel
theorem dX3_orderTo_0 : decode cX3_orderTo 0 = .ok (.aload_n 0, 1) := by decide +kernel
theorem dX3_orderTo_1 : decode cX3_orderTo 1 = .ok (.getfield 9, 3) := by decide +kernel
theorem dX3_orderTo_4 : decode cX3_orderTo 4 = .ok (.iconst 1, 1) := by decide +kernel
theorem dX3_orderTo_5 : decode cX3_orderTo 5 = .ok (.if_icmp .ne 35, 3) := by decide +kernel
theorem dX3_orderTo_8 : decode cX3_orderTo 8 = .ok (.aload_n 1, 1) := by decide +kernel
theorem dX3_orderTo_9 : decode cX3_orderTo 9 = .ok (.getfield 18, 3) := by decide +kernel
theorem dX3_orderTo_12 : decode cX3_orderTo 12 = .ok (.aload_n 0, 1) := by decide +kernel
theorem dX3_orderTo_13 : decode cX3_orderTo 13 = .ok (.getfield 18, 3) := by decide +kernel
theorem dX3_orderTo_16 : decode cX3_orderTo 16 = .ok (.invokestatic 44, 3) := by decide +kernel
theorem dX3_orderTo_19 : decode cX3_orderTo 19 = .ok (.istore_n 2, 1) := by decide +kernel
theorem dX3_orderTo_20 : decode cX3_orderTo 20 = .ok (.iload_n 2, 1) := by decide +kernel
theorem dX3_orderTo_21 : decode cX3_orderTo 21 = .ok (.ifCond .eq 7, 3) := by decide +kernel
theorem dX3_orderTo_24 : decode cX3_orderTo 24 = .ok (.iload_n 2, 1) := by decide +kernel
theorem dX3_orderTo_25 : decode cX3_orderTo 25 = .ok (.goto 14, 3) := by decide +kernel
theorem dX3_orderTo_28 : decode cX3_orderTo 28 = .ok (.aload_n 0, 1) := by decide +kernel
theorem dX3_orderTo_29 : decode cX3_orderTo 29 = .ok (.getfield 21, 3) := by decide +kernel
theorem dX3_orderTo_32 : decode cX3_orderTo 32 = .ok (.aload_n 1, 1) := by decide +kernel
theorem dX3_orderTo_33 : decode cX3_orderTo 33 = .ok (.getfield 21, 3) := by decide +kernel
theorem dX3_orderTo_36 : decode cX3_orderTo 36 = .ok (.invokestatic 44, 3) := by decide +kernel
theorem dX3_orderTo_39 : decode cX3_orderTo 39 = .ok (.ireturn, 1) := by decide +kernel
theorem dX3_orderTo_40 : decode cX3_orderTo 40 = .ok (.aload_n 0, 1) := by decide +kernel
theorem dX3_orderTo_41 : decode cX3_orderTo 41 = .ok (.getfield 9, 3) := by decide +kernel
theorem dX3_orderTo_44 : decode cX3_orderTo 44 = .ok (.iconst 2, 1) := by decide +kernel
theorem dX3_orderTo_45 : decode cX3_orderTo 45 = .ok (.if_icmp .ne 35, 3) := by decide +kernel
theorem dX3_orderTo_48 : decode cX3_orderTo 48 = .ok (.aload_n 1, 1) := by decide +kernel
theorem dX3_orderTo_49 : decode cX3_orderTo 49 = .ok (.getfield 21, 3) := by decide +kernel
theorem dX3_orderTo_52 : decode cX3_orderTo 52 = .ok (.aload_n 0, 1) := by decide +kernel
theorem dX3_orderTo_53 : decode cX3_orderTo 53 = .ok (.getfield 21, 3) := by decide +kernel
theorem dX3_orderTo_56 : decode cX3_orderTo 56 = .ok (.invokestatic 44, 3) := by decide +kernel
theorem dX3_orderTo_59 : decode cX3_orderTo 59 = .ok (.istore_n 2, 1) := by decide +kernel
theorem dX3_orderTo_60 : decode cX3_orderTo 60 = .ok (.iload_n 2, 1) := by decide +kernel
theorem dX3_orderTo_61 : decode cX3_orderTo 61 = .ok (.ifCond .eq 7, 3) := by decide +kernel
theorem dX3_orderTo_64 : decode cX3_orderTo 64 = .ok (.iload_n 2, 1) := by decide +kernel
theorem dX3_orderTo_65 : decode cX3_orderTo 65 = .ok (.goto 14, 3) := by decide +kernel
theorem dX3_orderTo_68 : decode cX3_orderTo 68 = .ok (.aload_n 1, 1) := by decide +kernel
theorem dX3_orderTo_69 : decode cX3_orderTo 69 = .ok (.getfield 18, 3) := by decide +kernel
theorem dX3_orderTo_72 : decode cX3_orderTo 72 = .ok (.aload_n 0, 1) := by decide +kernel
theorem dX3_orderTo_73 : decode cX3_orderTo 73 = .ok (.getfield 18, 3) := by decide +kernel
theorem dX3_orderTo_76 : decode cX3_orderTo 76 = .ok (.invokestatic 44, 3) := by decide +kernel
theorem dX3_orderTo_79 : decode cX3_orderTo 79 = .ok (.ireturn, 1) := by decide +kernel
theorem dX3_orderTo_80 : decode cX3_orderTo 80 = .ok (.aload_n 1, 1) := by decide +kernel
theorem dX3_orderTo_81 : decode cX3_orderTo 81 = .ok (.getfield 31, 3) := by decide +kernel
theorem dX3_orderTo_84 : decode cX3_orderTo 84 = .ok (.aload_n 0, 1) := by decide +kernel
theorem dX3_orderTo_85 : decode cX3_orderTo 85 = .ok (.getfield 31, 3) := by decide +kernel
theorem dX3_orderTo_88 : decode cX3_orderTo 88 = .ok (.invokestatic 44, 3) := by decide +kernel
theorem dX3_orderTo_91 : decode cX3_orderTo 91 = .ok (.ireturn, 1) := by decide +kernel
