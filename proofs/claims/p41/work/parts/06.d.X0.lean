theorem dX0_init_0 : decode cX0_init 0 = .ok (.aload_n 0, 1) := by decide +kernel
theorem dX0_init_1 : decode cX0_init 1 = .ok (.invokespecial 3, 3) := by decide +kernel
theorem dX0_init_4 : decode cX0_init 4 = .ok (.aload_n 0, 1) := by decide +kernel
theorem dX0_init_5 : decode cX0_init 5 = .ok (.bipush 12, 2) := by decide +kernel
theorem dX0_init_7 : decode cX0_init 7 = .ok (.anewarray 9, 3) := by decide +kernel
theorem dX0_init_10 : decode cX0_init 10 = .ok (.putfield 11, 3) := by decide +kernel
theorem dX0_init_13 : decode cX0_init 13 = .ok (.aload_n 0, 1) := by decide +kernel
theorem dX0_init_14 : decode cX0_init 14 = .ok (.new 9, 3) := by decide +kernel
theorem dX0_init_17 : decode cX0_init 17 = .ok (.dup, 1) := by decide +kernel
theorem dX0_init_18 : decode cX0_init 18 = .ok (.invokespecial 17, 3) := by decide +kernel
theorem dX0_init_21 : decode cX0_init 21 = .ok (.putfield 18, 3) := by decide +kernel
theorem dX0_init_24 : decode cX0_init 24 = .ok (.aload_n 0, 1) := by decide +kernel
theorem dX0_init_25 : decode cX0_init 25 = .ok (.iconst 0, 1) := by decide +kernel
theorem dX0_init_26 : decode cX0_init 26 = .ok (.putfield 22, 3) := by decide +kernel
theorem dX0_init_29 : decode cX0_init 29 = .ok (.aload_n 0, 1) := by decide +kernel
theorem dX0_init_30 : decode cX0_init 30 = .ok (.bipush 8, 2) := by decide +kernel
theorem dX0_init_32 : decode cX0_init 32 = .ok (.newarray .int, 2) := by decide +kernel
theorem dX0_init_34 : decode cX0_init 34 = .ok (.putfield 26, 3) := by decide +kernel
theorem dX0_init_37 : decode cX0_init 37 = .ok (.aload_n 0, 1) := by decide +kernel
theorem dX0_init_38 : decode cX0_init 38 = .ok (.iconst 0, 1) := by decide +kernel
theorem dX0_init_39 : decode cX0_init 39 = .ok (.putfield 30, 3) := by decide +kernel
theorem dX0_init_42 : decode cX0_init 42 = .ok (.aload_n 0, 1) := by decide +kernel
theorem dX0_init_43 : decode cX0_init 43 = .ok (.iconst 1, 1) := by decide +kernel
theorem dX0_init_44 : decode cX0_init 44 = .ok (.putfield 33, 3) := by decide +kernel
theorem dX0_init_47 : decode cX0_init 47 = .ok (.aload_n 0, 1) := by decide +kernel
theorem dX0_init_48 : decode cX0_init 48 = .ok (.iconst 0, 1) := by decide +kernel
theorem dX0_init_49 : decode cX0_init 49 = .ok (.putfield 36, 3) := by decide +kernel
theorem dX0_init_52 : decode cX0_init 52 = .ok (.aload_n 0, 1) := by decide +kernel
theorem dX0_init_53 : decode cX0_init 53 = .ok (.iconst 0, 1) := by decide +kernel
theorem dX0_init_54 : decode cX0_init 54 = .ok (.putfield 39, 3) := by decide +kernel
theorem dX0_init_57 : decode cX0_init 57 = .ok (.aload_n 0, 1) := by decide +kernel
theorem dX0_init_58 : decode cX0_init 58 = .ok (.iconst 0, 1) := by decide +kernel
theorem dX0_init_59 : decode cX0_init 59 = .ok (.putfield 42, 3) := by decide +kernel
theorem dX0_init_62 : decode cX0_init 62 = .ok (.aload_n 0, 1) := by decide +kernel
theorem dX0_init_63 : decode cX0_init 63 = .ok (.iconst 0, 1) := by decide +kernel
theorem dX0_init_64 : decode cX0_init 64 = .ok (.putfield 45, 3) := by decide +kernel
theorem dX0_init_67 : decode cX0_init 67 = .ok (.aload_n 0, 1) := by decide +kernel
theorem dX0_init_68 : decode cX0_init 68 = .ok (.iconst 5, 1) := by decide +kernel
theorem dX0_init_69 : decode cX0_init 69 = .ok (.newarray .boolean, 2) := by decide +kernel
theorem dX0_init_71 : decode cX0_init 71 = .ok (.putfield 48, 3) := by decide +kernel
theorem dX0_init_74 : decode cX0_init 74 = .ok (.aload_n 0, 1) := by decide +kernel
theorem dX0_init_75 : decode cX0_init 75 = .ok (.iconst 5, 1) := by decide +kernel
theorem dX0_init_76 : decode cX0_init 76 = .ok (.newarray .int, 2) := by decide +kernel
theorem dX0_init_78 : decode cX0_init 78 = .ok (.putfield 52, 3) := by decide +kernel
theorem dX0_init_81 : decode cX0_init 81 = .ok (.aload_n 0, 1) := by decide +kernel
theorem dX0_init_82 : decode cX0_init 82 = .ok (.iconst 5, 1) := by decide +kernel
theorem dX0_init_83 : decode cX0_init 83 = .ok (.newarray .boolean, 2) := by decide +kernel
theorem dX0_init_85 : decode cX0_init 85 = .ok (.putfield 55, 3) := by decide +kernel
theorem dX0_init_88 : decode cX0_init 88 = .ok (.iconst 0, 1) := by decide +kernel
theorem dX0_init_89 : decode cX0_init 89 = .ok (.istore_n 1, 1) := by decide +kernel
theorem dX0_init_90 : decode cX0_init 90 = .ok (.iload_n 1, 1) := by decide +kernel
theorem dX0_init_91 : decode cX0_init 91 = .ok (.bipush 12, 2) := by decide +kernel
theorem dX0_init_93 : decode cX0_init 93 = .ok (.if_icmp .ge 22, 3) := by decide +kernel
theorem dX0_init_96 : decode cX0_init 96 = .ok (.aload_n 0, 1) := by decide +kernel
theorem dX0_init_97 : decode cX0_init 97 = .ok (.getfield 11, 3) := by decide +kernel
theorem dX0_init_100 : decode cX0_init 100 = .ok (.iload_n 1, 1) := by decide +kernel
theorem dX0_init_101 : decode cX0_init 101 = .ok (.new 9, 3) := by decide +kernel
theorem dX0_init_104 : decode cX0_init 104 = .ok (.dup, 1) := by decide +kernel
theorem dX0_init_105 : decode cX0_init 105 = .ok (.invokespecial 17, 3) := by decide +kernel
theorem dX0_init_108 : decode cX0_init 108 = .ok (.aastore, 1) := by decide +kernel
theorem dX0_init_109 : decode cX0_init 109 = .ok (.iinc 1 1, 3) := by decide +kernel
theorem dX0_init_112 : decode cX0_init 112 = .ok (.goto (-22), 3) := by decide +kernel
theorem dX0_init_115 : decode cX0_init 115 = .ok (.return_, 1) := by decide +kernel
theorem dX0_propAt_0 : decode cX0_propAt 0 = .ok (.iload_n 1, 1) := by decide +kernel
theorem dX0_propAt_1 : decode cX0_propAt 1 = .ok (.ifCond .lt 20, 3) := by decide +kernel
theorem dX0_propAt_4 : decode cX0_propAt 4 = .ok (.iload_n 1, 1) := by decide +kernel
theorem dX0_propAt_5 : decode cX0_propAt 5 = .ok (.aload_n 0, 1) := by decide +kernel
theorem dX0_propAt_6 : decode cX0_propAt 6 = .ok (.getfield 22, 3) := by decide +kernel
theorem dX0_propAt_9 : decode cX0_propAt 9 = .ok (.if_icmp .ge 12, 3) := by decide +kernel
theorem dX0_propAt_12 : decode cX0_propAt 12 = .ok (.iload_n 1, 1) := by decide +kernel
theorem dX0_propAt_13 : decode cX0_propAt 13 = .ok (.aload_n 0, 1) := by decide +kernel
theorem dX0_propAt_14 : decode cX0_propAt 14 = .ok (.getfield 11, 3) := by decide +kernel
theorem dX0_propAt_17 : decode cX0_propAt 17 = .ok (.arraylength, 1) := by decide +kernel
theorem dX0_propAt_18 : decode cX0_propAt 18 = .ok (.if_icmp .lt 8, 3) := by decide +kernel
theorem dX0_propAt_21 : decode cX0_propAt 21 = .ok (.aload_n 0, 1) := by decide +kernel
theorem dX0_propAt_22 : decode cX0_propAt 22 = .ok (.getfield 18, 3) := by decide +kernel
theorem dX0_propAt_25 : decode cX0_propAt 25 = .ok (.areturn, 1) := by decide +kernel
theorem dX0_propAt_26 : decode cX0_propAt 26 = .ok (.aload_n 0, 1) := by decide +kernel
theorem dX0_propAt_27 : decode cX0_propAt 27 = .ok (.getfield 11, 3) := by decide +kernel
theorem dX0_propAt_30 : decode cX0_propAt 30 = .ok (.iload_n 1, 1) := by decide +kernel
theorem dX0_propAt_31 : decode cX0_propAt 31 = .ok (.aaload, 1) := by decide +kernel
theorem dX0_propAt_32 : decode cX0_propAt 32 = .ok (.astore_n 2, 1) := by decide +kernel
theorem dX0_propAt_33 : decode cX0_propAt 33 = .ok (.aload_n 2, 1) := by decide +kernel
theorem dX0_propAt_34 : decode cX0_propAt 34 = .ok (.ifnonnull 10, 3) := by decide +kernel
theorem dX0_propAt_37 : decode cX0_propAt 37 = .ok (.aload_n 0, 1) := by decide +kernel
theorem dX0_propAt_38 : decode cX0_propAt 38 = .ok (.getfield 18, 3) := by decide +kernel
theorem dX0_propAt_41 : decode cX0_propAt 41 = .ok (.goto 4, 3) := by decide +kernel
theorem dX0_propAt_44 : decode cX0_propAt 44 = .ok (.aload_n 2, 1) := by decide +kernel
theorem dX0_propAt_45 : decode cX0_propAt 45 = .ok (.areturn, 1) := by decide +kernel
theorem dX0_plannedAt_0 : decode cX0_plannedAt 0 = .ok (.iload_n 1, 1) := by decide +kernel
theorem dX0_plannedAt_1 : decode cX0_plannedAt 1 = .ok (.ifCond .lt 21, 3) := by decide +kernel
theorem dX0_plannedAt_4 : decode cX0_plannedAt 4 = .ok (.iload_n 1, 1) := by decide +kernel
theorem dX0_plannedAt_5 : decode cX0_plannedAt 5 = .ok (.aload_n 0, 1) := by decide +kernel
theorem dX0_plannedAt_6 : decode cX0_plannedAt 6 = .ok (.getfield 26, 3) := by decide +kernel
theorem dX0_plannedAt_9 : decode cX0_plannedAt 9 = .ok (.arraylength, 1) := by decide +kernel
theorem dX0_plannedAt_10 : decode cX0_plannedAt 10 = .ok (.if_icmp .ge 12, 3) := by decide +kernel
theorem dX0_plannedAt_13 : decode cX0_plannedAt 13 = .ok (.aload_n 0, 1) := by decide +kernel
theorem dX0_plannedAt_14 : decode cX0_plannedAt 14 = .ok (.getfield 26, 3) := by decide +kernel
theorem dX0_plannedAt_17 : decode cX0_plannedAt 17 = .ok (.iload_n 1, 1) := by decide +kernel
theorem dX0_plannedAt_18 : decode cX0_plannedAt 18 = .ok (.iaload, 1) := by decide +kernel
theorem dX0_plannedAt_19 : decode cX0_plannedAt 19 = .ok (.goto 4, 3) := by decide +kernel
theorem dX0_plannedAt_22 : decode cX0_plannedAt 22 = .ok (.iconst 0, 1) := by decide +kernel
theorem dX0_plannedAt_23 : decode cX0_plannedAt 23 = .ok (.ireturn, 1) := by decide +kernel
theorem dX0_copyFrom_0 : decode cX0_copyFrom 0 = .ok (.aload_n 0, 1) := by decide +kernel
theorem dX0_copyFrom_1 : decode cX0_copyFrom 1 = .ok (.aload_n 1, 1) := by decide +kernel
theorem dX0_copyFrom_2 : decode cX0_copyFrom 2 = .ok (.getfield 22, 3) := by decide +kernel
theorem dX0_copyFrom_5 : decode cX0_copyFrom 5 = .ok (.putfield 22, 3) := by decide +kernel
theorem dX0_copyFrom_8 : decode cX0_copyFrom 8 = .ok (.iconst 0, 1) := by decide +kernel
theorem dX0_copyFrom_9 : decode cX0_copyFrom 9 = .ok (.istore_n 2, 1) := by decide +kernel
theorem dX0_copyFrom_10 : decode cX0_copyFrom 10 = .ok (.iload_n 2, 1) := by decide +kernel
theorem dX0_copyFrom_11 : decode cX0_copyFrom 11 = .ok (.aload_n 0, 1) := by decide +kernel
theorem dX0_copyFrom_12 : decode cX0_copyFrom 12 = .ok (.getfield 22, 3) := by decide +kernel
theorem dX0_copyFrom_15 : decode cX0_copyFrom 15 = .ok (.if_icmp .ge 22, 3) := by decide +kernel
theorem dX0_copyFrom_18 : decode cX0_copyFrom 18 = .ok (.aload_n 0, 1) := by decide +kernel
theorem dX0_copyFrom_19 : decode cX0_copyFrom 19 = .ok (.iload_n 2, 1) := by decide +kernel
theorem dX0_copyFrom_20 : decode cX0_copyFrom 20 = .ok (.invokevirtual 58, 3) := by decide +kernel
theorem dX0_copyFrom_23 : decode cX0_copyFrom 23 = .ok (.aload_n 1, 1) := by decide +kernel
theorem dX0_copyFrom_24 : decode cX0_copyFrom 24 = .ok (.iload_n 2, 1) := by decide +kernel
theorem dX0_copyFrom_25 : decode cX0_copyFrom 25 = .ok (.invokevirtual 58, 3) := by decide +kernel
theorem dX0_copyFrom_28 : decode cX0_copyFrom 28 = .ok (.invokevirtual 62, 3) := by decide +kernel
theorem dX0_copyFrom_31 : decode cX0_copyFrom 31 = .ok (.iinc 2 1, 3) := by decide +kernel
theorem dX0_copyFrom_34 : decode cX0_copyFrom 34 = .ok (.goto (-24), 3) := by decide +kernel
theorem dX0_copyFrom_37 : decode cX0_copyFrom 37 = .ok (.aload_n 0, 1) := by decide +kernel
theorem dX0_copyFrom_38 : decode cX0_copyFrom 38 = .ok (.aload_n 1, 1) := by decide +kernel
theorem dX0_copyFrom_39 : decode cX0_copyFrom 39 = .ok (.getfield 30, 3) := by decide +kernel
theorem dX0_copyFrom_42 : decode cX0_copyFrom 42 = .ok (.putfield 30, 3) := by decide +kernel
theorem dX0_copyFrom_45 : decode cX0_copyFrom 45 = .ok (.iconst 0, 1) := by decide +kernel
theorem dX0_copyFrom_46 : decode cX0_copyFrom 46 = .ok (.istore_n 2, 1) := by decide +kernel
theorem dX0_copyFrom_47 : decode cX0_copyFrom 47 = .ok (.iload_n 2, 1) := by decide +kernel
theorem dX0_copyFrom_48 : decode cX0_copyFrom 48 = .ok (.bipush 8, 2) := by decide +kernel
theorem dX0_copyFrom_50 : decode cX0_copyFrom 50 = .ok (.if_icmp .ge 21, 3) := by decide +kernel
theorem dX0_copyFrom_53 : decode cX0_copyFrom 53 = .ok (.aload_n 0, 1) := by decide +kernel
theorem dX0_copyFrom_54 : decode cX0_copyFrom 54 = .ok (.getfield 26, 3) := by decide +kernel
theorem dX0_copyFrom_57 : decode cX0_copyFrom 57 = .ok (.iload_n 2, 1) := by decide +kernel
theorem dX0_copyFrom_58 : decode cX0_copyFrom 58 = .ok (.aload_n 1, 1) := by decide +kernel
theorem dX0_copyFrom_59 : decode cX0_copyFrom 59 = .ok (.getfield 26, 3) := by decide +kernel
theorem dX0_copyFrom_62 : decode cX0_copyFrom 62 = .ok (.iload_n 2, 1) := by decide +kernel
theorem dX0_copyFrom_63 : decode cX0_copyFrom 63 = .ok (.iaload, 1) := by decide +kernel
theorem dX0_copyFrom_64 : decode cX0_copyFrom 64 = .ok (.iastore, 1) := by decide +kernel
theorem dX0_copyFrom_65 : decode cX0_copyFrom 65 = .ok (.iinc 2 1, 3) := by decide +kernel
theorem dX0_copyFrom_68 : decode cX0_copyFrom 68 = .ok (.goto (-21), 3) := by decide +kernel
theorem dX0_copyFrom_71 : decode cX0_copyFrom 71 = .ok (.aload_n 0, 1) := by decide +kernel
theorem dX0_copyFrom_72 : decode cX0_copyFrom 72 = .ok (.aload_n 1, 1) := by decide +kernel
theorem dX0_copyFrom_73 : decode cX0_copyFrom 73 = .ok (.getfield 33, 3) := by decide +kernel
theorem dX0_copyFrom_76 : decode cX0_copyFrom 76 = .ok (.putfield 33, 3) := by decide +kernel
theorem dX0_copyFrom_79 : decode cX0_copyFrom 79 = .ok (.aload_n 0, 1) := by decide +kernel
theorem dX0_copyFrom_80 : decode cX0_copyFrom 80 = .ok (.aload_n 1, 1) := by decide +kernel
theorem dX0_copyFrom_81 : decode cX0_copyFrom 81 = .ok (.getfield 36, 3) := by decide +kernel
theorem dX0_copyFrom_84 : decode cX0_copyFrom 84 = .ok (.putfield 36, 3) := by decide +kernel
theorem dX0_copyFrom_87 : decode cX0_copyFrom 87 = .ok (.aload_n 0, 1) := by decide +kernel
theorem dX0_copyFrom_88 : decode cX0_copyFrom 88 = .ok (.aload_n 1, 1) := by decide +kernel
theorem dX0_copyFrom_89 : decode cX0_copyFrom 89 = .ok (.getfield 39, 3) := by decide +kernel
theorem dX0_copyFrom_92 : decode cX0_copyFrom 92 = .ok (.putfield 39, 3) := by decide +kernel
theorem dX0_copyFrom_95 : decode cX0_copyFrom 95 = .ok (.aload_n 0, 1) := by decide +kernel
theorem dX0_copyFrom_96 : decode cX0_copyFrom 96 = .ok (.aload_n 1, 1) := by decide +kernel
theorem dX0_copyFrom_97 : decode cX0_copyFrom 97 = .ok (.getfield 42, 3) := by decide +kernel
theorem dX0_copyFrom_100 : decode cX0_copyFrom 100 = .ok (.putfield 42, 3) := by decide +kernel
theorem dX0_copyFrom_103 : decode cX0_copyFrom 103 = .ok (.aload_n 0, 1) := by decide +kernel
theorem dX0_copyFrom_104 : decode cX0_copyFrom 104 = .ok (.aload_n 1, 1) := by decide +kernel
theorem dX0_copyFrom_105 : decode cX0_copyFrom 105 = .ok (.getfield 45, 3) := by decide +kernel
theorem dX0_copyFrom_108 : decode cX0_copyFrom 108 = .ok (.putfield 45, 3) := by decide +kernel
theorem dX0_copyFrom_111 : decode cX0_copyFrom 111 = .ok (.return_, 1) := by decide +kernel
theorem dX0_placeProp_0 : decode cX0_placeProp 0 = .ok (.aload_n 0, 1) := by decide +kernel
theorem dX0_placeProp_1 : decode cX0_placeProp 1 = .ok (.getfield 22, 3) := by decide +kernel
theorem dX0_placeProp_4 : decode cX0_placeProp 4 = .ok (.istore 4, 2) := by decide +kernel
theorem dX0_placeProp_6 : decode cX0_placeProp 6 = .ok (.aload_n 0, 1) := by decide +kernel
theorem dX0_placeProp_7 : decode cX0_placeProp 7 = .ok (.dup, 1) := by decide +kernel
theorem dX0_placeProp_8 : decode cX0_placeProp 8 = .ok (.getfield 22, 3) := by decide +kernel
theorem dX0_placeProp_11 : decode cX0_placeProp 11 = .ok (.iconst 1, 1) := by decide +kernel
theorem dX0_placeProp_12 : decode cX0_placeProp 12 = .ok (.iadd, 1) := by decide +kernel
theorem dX0_placeProp_13 : decode cX0_placeProp 13 = .ok (.putfield 22, 3) := by decide +kernel
theorem dX0_placeProp_16 : decode cX0_placeProp 16 = .ok (.aload_n 0, 1) := by decide +kernel
theorem dX0_placeProp_17 : decode cX0_placeProp 17 = .ok (.iload 4, 2) := by decide +kernel
theorem dX0_placeProp_19 : decode cX0_placeProp 19 = .ok (.invokevirtual 58, 3) := by decide +kernel
theorem dX0_placeProp_22 : decode cX0_placeProp 22 = .ok (.iload_n 1, 1) := by decide +kernel
theorem dX0_placeProp_23 : decode cX0_placeProp 23 = .ok (.iload_n 2, 1) := by decide +kernel
theorem dX0_placeProp_24 : decode cX0_placeProp 24 = .ok (.iload_n 3, 1) := by decide +kernel
theorem dX0_placeProp_25 : decode cX0_placeProp 25 = .ok (.invokevirtual 66, 3) := by decide +kernel
theorem dX0_placeProp_28 : decode cX0_placeProp 28 = .ok (.iload 4, 2) := by decide +kernel
theorem dX0_placeProp_30 : decode cX0_placeProp 30 = .ok (.ireturn, 1) := by decide +kernel
theorem dX0_removeProp_0 : decode cX0_removeProp 0 = .ok (.iload_n 1, 1) := by decide +kernel
theorem dX0_removeProp_1 : decode cX0_removeProp 1 = .ok (.istore_n 2, 1) := by decide +kernel
theorem dX0_removeProp_2 : decode cX0_removeProp 2 = .ok (.iload_n 2, 1) := by decide +kernel
theorem dX0_removeProp_3 : decode cX0_removeProp 3 = .ok (.aload_n 0, 1) := by decide +kernel
theorem dX0_removeProp_4 : decode cX0_removeProp 4 = .ok (.getfield 22, 3) := by decide +kernel
theorem dX0_removeProp_7 : decode cX0_removeProp 7 = .ok (.iconst 1, 1) := by decide +kernel
theorem dX0_removeProp_8 : decode cX0_removeProp 8 = .ok (.isub, 1) := by decide +kernel
theorem dX0_removeProp_9 : decode cX0_removeProp 9 = .ok (.if_icmp .ge 24, 3) := by decide +kernel
theorem dX0_removeProp_12 : decode cX0_removeProp 12 = .ok (.aload_n 0, 1) := by decide +kernel
theorem dX0_removeProp_13 : decode cX0_removeProp 13 = .ok (.iload_n 2, 1) := by decide +kernel
theorem dX0_removeProp_14 : decode cX0_removeProp 14 = .ok (.invokevirtual 58, 3) := by decide +kernel
theorem dX0_removeProp_17 : decode cX0_removeProp 17 = .ok (.aload_n 0, 1) := by decide +kernel
theorem dX0_removeProp_18 : decode cX0_removeProp 18 = .ok (.iload_n 2, 1) := by decide +kernel
theorem dX0_removeProp_19 : decode cX0_removeProp 19 = .ok (.iconst 1, 1) := by decide +kernel
theorem dX0_removeProp_20 : decode cX0_removeProp 20 = .ok (.iadd, 1) := by decide +kernel
theorem dX0_removeProp_21 : decode cX0_removeProp 21 = .ok (.invokevirtual 58, 3) := by decide +kernel
theorem dX0_removeProp_24 : decode cX0_removeProp 24 = .ok (.invokevirtual 62, 3) := by decide +kernel
theorem dX0_removeProp_27 : decode cX0_removeProp 27 = .ok (.iinc 2 1, 3) := by decide +kernel
theorem dX0_removeProp_30 : decode cX0_removeProp 30 = .ok (.goto (-28), 3) := by decide +kernel
theorem dX0_removeProp_33 : decode cX0_removeProp 33 = .ok (.aload_n 0, 1) := by decide +kernel
theorem dX0_removeProp_34 : decode cX0_removeProp 34 = .ok (.dup, 1) := by decide +kernel
theorem dX0_removeProp_35 : decode cX0_removeProp 35 = .ok (.getfield 22, 3) := by decide +kernel
theorem dX0_removeProp_38 : decode cX0_removeProp 38 = .ok (.iconst 1, 1) := by decide +kernel
theorem dX0_removeProp_39 : decode cX0_removeProp 39 = .ok (.isub, 1) := by decide +kernel
theorem dX0_removeProp_40 : decode cX0_removeProp 40 = .ok (.putfield 22, 3) := by decide +kernel
theorem dX0_removeProp_43 : decode cX0_removeProp 43 = .ok (.aload_n 0, 1) := by decide +kernel
theorem dX0_removeProp_44 : decode cX0_removeProp 44 = .ok (.getfield 22, 3) := by decide +kernel
theorem dX0_removeProp_47 : decode cX0_removeProp 47 = .ok (.ireturn, 1) := by decide +kernel
theorem dX0_plan_0 : decode cX0_plan 0 = .ok (.aload_n 0, 1) := by decide +kernel
theorem dX0_plan_1 : decode cX0_plan 1 = .ok (.getfield 30, 3) := by decide +kernel
theorem dX0_plan_4 : decode cX0_plan 4 = .ok (.ifCond .lt 35, 3) := by decide +kernel
theorem dX0_plan_7 : decode cX0_plan 7 = .ok (.aload_n 0, 1) := by decide +kernel
theorem dX0_plan_8 : decode cX0_plan 8 = .ok (.getfield 30, 3) := by decide +kernel
theorem dX0_plan_11 : decode cX0_plan 11 = .ok (.aload_n 0, 1) := by decide +kernel
theorem dX0_plan_12 : decode cX0_plan 12 = .ok (.getfield 26, 3) := by decide +kernel
theorem dX0_plan_15 : decode cX0_plan 15 = .ok (.arraylength, 1) := by decide +kernel
theorem dX0_plan_16 : decode cX0_plan 16 = .ok (.if_icmp .ge 23, 3) := by decide +kernel
theorem dX0_plan_19 : decode cX0_plan 19 = .ok (.aload_n 0, 1) := by decide +kernel
theorem dX0_plan_20 : decode cX0_plan 20 = .ok (.getfield 26, 3) := by decide +kernel
theorem dX0_plan_23 : decode cX0_plan 23 = .ok (.aload_n 0, 1) := by decide +kernel
theorem dX0_plan_24 : decode cX0_plan 24 = .ok (.getfield 30, 3) := by decide +kernel
theorem dX0_plan_27 : decode cX0_plan 27 = .ok (.iload_n 1, 1) := by decide +kernel
theorem dX0_plan_28 : decode cX0_plan 28 = .ok (.iastore, 1) := by decide +kernel
theorem dX0_plan_29 : decode cX0_plan 29 = .ok (.aload_n 0, 1) := by decide +kernel
theorem dX0_plan_30 : decode cX0_plan 30 = .ok (.dup, 1) := by decide +kernel
theorem dX0_plan_31 : decode cX0_plan 31 = .ok (.getfield 30, 3) := by decide +kernel
theorem dX0_plan_34 : decode cX0_plan 34 = .ok (.iconst 1, 1) := by decide +kernel
theorem dX0_plan_35 : decode cX0_plan 35 = .ok (.iadd, 1) := by decide +kernel
theorem dX0_plan_36 : decode cX0_plan 36 = .ok (.putfield 30, 3) := by decide +kernel
theorem dX0_plan_39 : decode cX0_plan 39 = .ok (.aload_n 0, 1) := by decide +kernel
theorem dX0_plan_40 : decode cX0_plan 40 = .ok (.getfield 30, 3) := by decide +kernel
theorem dX0_plan_43 : decode cX0_plan 43 = .ok (.ireturn, 1) := by decide +kernel
theorem dX0_countOf_0 : decode cX0_countOf 0 = .ok (.iconst 0, 1) := by decide +kernel
theorem dX0_countOf_1 : decode cX0_countOf 1 = .ok (.istore_n 2, 1) := by decide +kernel
theorem dX0_countOf_2 : decode cX0_countOf 2 = .ok (.iconst 0, 1) := by decide +kernel
theorem dX0_countOf_3 : decode cX0_countOf 3 = .ok (.istore_n 3, 1) := by decide +kernel
theorem dX0_countOf_4 : decode cX0_countOf 4 = .ok (.iload_n 3, 1) := by decide +kernel
theorem dX0_countOf_5 : decode cX0_countOf 5 = .ok (.aload_n 0, 1) := by decide +kernel
theorem dX0_countOf_6 : decode cX0_countOf 6 = .ok (.getfield 22, 3) := by decide +kernel
theorem dX0_countOf_9 : decode cX0_countOf 9 = .ok (.if_icmp .ge 24, 3) := by decide +kernel
theorem dX0_countOf_12 : decode cX0_countOf 12 = .ok (.aload_n 0, 1) := by decide +kernel
theorem dX0_countOf_13 : decode cX0_countOf 13 = .ok (.iload_n 3, 1) := by decide +kernel
theorem dX0_countOf_14 : decode cX0_countOf 14 = .ok (.invokevirtual 58, 3) := by decide +kernel
theorem dX0_countOf_17 : decode cX0_countOf 17 = .ok (.getfield 70, 3) := by decide +kernel
theorem dX0_countOf_20 : decode cX0_countOf 20 = .ok (.iload_n 1, 1) := by decide +kernel
theorem dX0_countOf_21 : decode cX0_countOf 21 = .ok (.if_icmp .ne 6, 3) := by decide +kernel
theorem dX0_countOf_24 : decode cX0_countOf 24 = .ok (.iinc 2 1, 3) := by decide +kernel
theorem dX0_countOf_27 : decode cX0_countOf 27 = .ok (.iinc 3 1, 3) := by decide +kernel
theorem dX0_countOf_30 : decode cX0_countOf 30 = .ok (.goto (-26), 3) := by decide +kernel
theorem dX0_countOf_33 : decode cX0_countOf 33 = .ok (.iload_n 2, 1) := by decide +kernel
theorem dX0_countOf_34 : decode cX0_countOf 34 = .ok (.ireturn, 1) := by decide +kernel
theorem dX0_countOn_0 : decode cX0_countOn 0 = .ok (.iconst 0, 1) := by decide +kernel
theorem dX0_countOn_1 : decode cX0_countOn 1 = .ok (.istore_n 3, 1) := by decide +kernel
theorem dX0_countOn_2 : decode cX0_countOn 2 = .ok (.iconst 0, 1) := by decide +kernel
theorem dX0_countOn_3 : decode cX0_countOn 3 = .ok (.istore 4, 2) := by decide +kernel
theorem dX0_countOn_5 : decode cX0_countOn 5 = .ok (.iload 4, 2) := by decide +kernel
theorem dX0_countOn_7 : decode cX0_countOn 7 = .ok (.aload_n 0, 1) := by decide +kernel
theorem dX0_countOn_8 : decode cX0_countOn 8 = .ok (.getfield 22, 3) := by decide +kernel
theorem dX0_countOn_11 : decode cX0_countOn 11 = .ok (.if_icmp .ge 38, 3) := by decide +kernel
theorem dX0_countOn_14 : decode cX0_countOn 14 = .ok (.aload_n 0, 1) := by decide +kernel
theorem dX0_countOn_15 : decode cX0_countOn 15 = .ok (.iload 4, 2) := by decide +kernel
theorem dX0_countOn_17 : decode cX0_countOn 17 = .ok (.invokevirtual 58, 3) := by decide +kernel
theorem dX0_countOn_20 : decode cX0_countOn 20 = .ok (.astore 5, 2) := by decide +kernel
theorem dX0_countOn_22 : decode cX0_countOn 22 = .ok (.aload 5, 2) := by decide +kernel
theorem dX0_countOn_24 : decode cX0_countOn 24 = .ok (.getfield 70, 3) := by decide +kernel
theorem dX0_countOn_27 : decode cX0_countOn 27 = .ok (.iload_n 1, 1) := by decide +kernel
theorem dX0_countOn_28 : decode cX0_countOn 28 = .ok (.if_icmp .ne 15, 3) := by decide +kernel
theorem dX0_countOn_31 : decode cX0_countOn 31 = .ok (.aload 5, 2) := by decide +kernel
theorem dX0_countOn_33 : decode cX0_countOn 33 = .ok (.getfield 73, 3) := by decide +kernel
theorem dX0_countOn_36 : decode cX0_countOn 36 = .ok (.iload_n 2, 1) := by decide +kernel
theorem dX0_countOn_37 : decode cX0_countOn 37 = .ok (.if_icmp .ne 6, 3) := by decide +kernel
theorem dX0_countOn_40 : decode cX0_countOn 40 = .ok (.iinc 3 1, 3) := by decide +kernel
theorem dX0_countOn_43 : decode cX0_countOn 43 = .ok (.iinc 4 1, 3) := by decide +kernel
theorem dX0_countOn_46 : decode cX0_countOn 46 = .ok (.goto (-41), 3) := by decide +kernel
theorem dX0_countOn_49 : decode cX0_countOn 49 = .ok (.iload_n 3, 1) := by decide +kernel
theorem dX0_countOn_50 : decode cX0_countOn 50 = .ok (.ireturn, 1) := by decide +kernel
theorem dX0_countBroken_0 : decode cX0_countBroken 0 = .ok (.iconst 0, 1) := by decide +kernel
theorem dX0_countBroken_1 : decode cX0_countBroken 1 = .ok (.istore_n 1, 1) := by decide +kernel
theorem dX0_countBroken_2 : decode cX0_countBroken 2 = .ok (.iconst 0, 1) := by decide +kernel
theorem dX0_countBroken_3 : decode cX0_countBroken 3 = .ok (.istore_n 2, 1) := by decide +kernel
theorem dX0_countBroken_4 : decode cX0_countBroken 4 = .ok (.iload_n 2, 1) := by decide +kernel
theorem dX0_countBroken_5 : decode cX0_countBroken 5 = .ok (.aload_n 0, 1) := by decide +kernel
theorem dX0_countBroken_6 : decode cX0_countBroken 6 = .ok (.getfield 22, 3) := by decide +kernel
theorem dX0_countBroken_9 : decode cX0_countBroken 9 = .ok (.if_icmp .ge 23, 3) := by decide +kernel
theorem dX0_countBroken_12 : decode cX0_countBroken 12 = .ok (.aload_n 0, 1) := by decide +kernel
theorem dX0_countBroken_13 : decode cX0_countBroken 13 = .ok (.iload_n 2, 1) := by decide +kernel
theorem dX0_countBroken_14 : decode cX0_countBroken 14 = .ok (.invokevirtual 58, 3) := by decide +kernel
theorem dX0_countBroken_17 : decode cX0_countBroken 17 = .ok (.getfield 76, 3) := by decide +kernel
theorem dX0_countBroken_20 : decode cX0_countBroken 20 = .ok (.ifCond .eq 6, 3) := by decide +kernel
theorem dX0_countBroken_23 : decode cX0_countBroken 23 = .ok (.iinc 1 1, 3) := by decide +kernel
theorem dX0_countBroken_26 : decode cX0_countBroken 26 = .ok (.iinc 2 1, 3) := by decide +kernel
theorem dX0_countBroken_29 : decode cX0_countBroken 29 = .ok (.goto (-25), 3) := by decide +kernel
theorem dX0_countBroken_32 : decode cX0_countBroken 32 = .ok (.iload_n 1, 1) := by decide +kernel
theorem dX0_countBroken_33 : decode cX0_countBroken 33 = .ok (.ireturn, 1) := by decide +kernel
theorem dX0_sumOfGrades_0 : decode cX0_sumOfGrades 0 = .ok (.iconst 0, 1) := by decide +kernel
theorem dX0_sumOfGrades_1 : decode cX0_sumOfGrades 1 = .ok (.istore_n 1, 1) := by decide +kernel
theorem dX0_sumOfGrades_2 : decode cX0_sumOfGrades 2 = .ok (.iconst 0, 1) := by decide +kernel
theorem dX0_sumOfGrades_3 : decode cX0_sumOfGrades 3 = .ok (.istore_n 2, 1) := by decide +kernel
theorem dX0_sumOfGrades_4 : decode cX0_sumOfGrades 4 = .ok (.iload_n 2, 1) := by decide +kernel
theorem dX0_sumOfGrades_5 : decode cX0_sumOfGrades 5 = .ok (.aload_n 0, 1) := by decide +kernel
theorem dX0_sumOfGrades_6 : decode cX0_sumOfGrades 6 = .ok (.getfield 22, 3) := by decide +kernel
theorem dX0_sumOfGrades_9 : decode cX0_sumOfGrades 9 = .ok (.if_icmp .ge 30, 3) := by decide +kernel
theorem dX0_sumOfGrades_12 : decode cX0_sumOfGrades 12 = .ok (.aload_n 0, 1) := by decide +kernel
theorem dX0_sumOfGrades_13 : decode cX0_sumOfGrades 13 = .ok (.iload_n 2, 1) := by decide +kernel
theorem dX0_sumOfGrades_14 : decode cX0_sumOfGrades 14 = .ok (.invokevirtual 58, 3) := by decide +kernel
theorem dX0_sumOfGrades_17 : decode cX0_sumOfGrades 17 = .ok (.astore_n 3, 1) := by decide +kernel
theorem dX0_sumOfGrades_18 : decode cX0_sumOfGrades 18 = .ok (.aload_n 3, 1) := by decide +kernel
theorem dX0_sumOfGrades_19 : decode cX0_sumOfGrades 19 = .ok (.getfield 70, 3) := by decide +kernel
theorem dX0_sumOfGrades_22 : decode cX0_sumOfGrades 22 = .ok (.iconst 1, 1) := by decide +kernel
theorem dX0_sumOfGrades_23 : decode cX0_sumOfGrades 23 = .ok (.if_icmp .ne 10, 3) := by decide +kernel
theorem dX0_sumOfGrades_26 : decode cX0_sumOfGrades 26 = .ok (.iload_n 1, 1) := by decide +kernel
theorem dX0_sumOfGrades_27 : decode cX0_sumOfGrades 27 = .ok (.aload_n 3, 1) := by decide +kernel
theorem dX0_sumOfGrades_28 : decode cX0_sumOfGrades 28 = .ok (.getfield 80, 3) := by decide +kernel
theorem dX0_sumOfGrades_31 : decode cX0_sumOfGrades 31 = .ok (.iadd, 1) := by decide +kernel
theorem dX0_sumOfGrades_32 : decode cX0_sumOfGrades 32 = .ok (.istore_n 1, 1) := by decide +kernel
theorem dX0_sumOfGrades_33 : decode cX0_sumOfGrades 33 = .ok (.iinc 2 1, 3) := by decide +kernel
theorem dX0_sumOfGrades_36 : decode cX0_sumOfGrades 36 = .ok (.goto (-32), 3) := by decide +kernel
theorem dX0_sumOfGrades_39 : decode cX0_sumOfGrades 39 = .ok (.iload_n 1, 1) := by decide +kernel
theorem dX0_sumOfGrades_40 : decode cX0_sumOfGrades 40 = .ok (.ireturn, 1) := by decide +kernel
theorem dX0_reachFloorByFloor_0 : decode cX0_reachFloorByFloor 0 = .ok (.aload_n 0, 1) := by decide +kernel
theorem dX0_reachFloorByFloor_1 : decode cX0_reachFloorByFloor 1 = .ok (.iload_n 1, 1) := by decide +kernel
theorem dX0_reachFloorByFloor_2 : decode cX0_reachFloorByFloor 2 = .ok (.invokevirtual 83, 3) := by decide +kernel
theorem dX0_reachFloorByFloor_5 : decode cX0_reachFloorByFloor 5 = .ok (.aload_n 0, 1) := by decide +kernel
theorem dX0_reachFloorByFloor_6 : decode cX0_reachFloorByFloor 6 = .ok (.iload_n 2, 1) := by decide +kernel
theorem dX0_reachFloorByFloor_7 : decode cX0_reachFloorByFloor 7 = .ok (.invokevirtual 87, 3) := by decide +kernel
theorem dX0_reachFloorByFloor_10 : decode cX0_reachFloorByFloor 10 = .ok (.ireturn, 1) := by decide +kernel
theorem dX0_reachAgain_0 : decode cX0_reachAgain 0 = .ok (.iload_n 2, 1) := by decide +kernel
theorem dX0_reachAgain_1 : decode cX0_reachAgain 1 = .ok (.istore_n 3, 1) := by decide +kernel
theorem dX0_reachAgain_2 : decode cX0_reachAgain 2 = .ok (.iconst 0, 1) := by decide +kernel
theorem dX0_reachAgain_3 : decode cX0_reachAgain 3 = .ok (.istore 4, 2) := by decide +kernel
theorem dX0_reachAgain_5 : decode cX0_reachAgain 5 = .ok (.iload 4, 2) := by decide +kernel
theorem dX0_reachAgain_7 : decode cX0_reachAgain 7 = .ok (.iload_n 2, 1) := by decide +kernel
theorem dX0_reachAgain_8 : decode cX0_reachAgain 8 = .ok (.if_icmp .ge 22, 3) := by decide +kernel
theorem dX0_reachAgain_11 : decode cX0_reachAgain 11 = .ok (.aload_n 0, 1) := by decide +kernel
theorem dX0_reachAgain_12 : decode cX0_reachAgain 12 = .ok (.iconst 3, 1) := by decide +kernel
theorem dX0_reachAgain_13 : decode cX0_reachAgain 13 = .ok (.iload 4, 2) := by decide +kernel
theorem dX0_reachAgain_15 : decode cX0_reachAgain 15 = .ok (.invokevirtual 91, 3) := by decide +kernel
theorem dX0_reachAgain_18 : decode cX0_reachAgain 18 = .ok (.ifCond .le 6, 3) := by decide +kernel
theorem dX0_reachAgain_21 : decode cX0_reachAgain 21 = .ok (.iinc 3 1, 3) := by decide +kernel
theorem dX0_reachAgain_24 : decode cX0_reachAgain 24 = .ok (.iinc 4 1, 3) := by decide +kernel
theorem dX0_reachAgain_27 : decode cX0_reachAgain 27 = .ok (.goto (-22), 3) := by decide +kernel
theorem dX0_reachAgain_30 : decode cX0_reachAgain 30 = .ok (.iload_n 1, 1) := by decide +kernel
theorem dX0_reachAgain_31 : decode cX0_reachAgain 31 = .ok (.iload_n 3, 1) := by decide +kernel
theorem dX0_reachAgain_32 : decode cX0_reachAgain 32 = .ok (.if_icmp .le 9, 3) := by decide +kernel
theorem dX0_reachAgain_35 : decode cX0_reachAgain 35 = .ok (.iload_n 1, 1) := by decide +kernel
theorem dX0_reachAgain_36 : decode cX0_reachAgain 36 = .ok (.iload_n 3, 1) := by decide +kernel
theorem dX0_reachAgain_37 : decode cX0_reachAgain 37 = .ok (.isub, 1) := by decide +kernel
theorem dX0_reachAgain_38 : decode cX0_reachAgain 38 = .ok (.goto 4, 3) := by decide +kernel
theorem dX0_reachAgain_41 : decode cX0_reachAgain 41 = .ok (.iconst 0, 1) := by decide +kernel
theorem dX0_reachAgain_42 : decode cX0_reachAgain 42 = .ok (.ireturn, 1) := by decide +kernel
theorem dX0_spread_0 : decode cX0_spread 0 = .ok (.aload_n 0, 1) := by decide +kernel
theorem dX0_spread_1 : decode cX0_spread 1 = .ok (.invokevirtual 95, 3) := by decide +kernel
theorem dX0_spread_4 : decode cX0_spread 4 = .ok (.iload_n 1, 1) := by decide +kernel
theorem dX0_spread_5 : decode cX0_spread 5 = .ok (.istore_n 2, 1) := by decide +kernel
theorem dX0_spread_6 : decode cX0_spread 6 = .ok (.iconst 0, 1) := by decide +kernel
theorem dX0_spread_7 : decode cX0_spread 7 = .ok (.istore_n 3, 1) := by decide +kernel
theorem dX0_spread_8 : decode cX0_spread 8 = .ok (.iload_n 3, 1) := by decide +kernel
theorem dX0_spread_9 : decode cX0_spread 9 = .ok (.iconst 5, 1) := by decide +kernel
theorem dX0_spread_10 : decode cX0_spread 10 = .ok (.if_icmp .ge 39, 3) := by decide +kernel
theorem dX0_spread_13 : decode cX0_spread 13 = .ok (.aload_n 0, 1) := by decide +kernel
theorem dX0_spread_14 : decode cX0_spread 14 = .ok (.getfield 52, 3) := by decide +kernel
theorem dX0_spread_17 : decode cX0_spread 17 = .ok (.iload_n 3, 1) := by decide +kernel
theorem dX0_spread_18 : decode cX0_spread 18 = .ok (.iload_n 2, 1) := by decide +kernel
theorem dX0_spread_19 : decode cX0_spread 19 = .ok (.iastore, 1) := by decide +kernel
theorem dX0_spread_20 : decode cX0_spread 20 = .ok (.iload_n 2, 1) := by decide +kernel
theorem dX0_spread_21 : decode cX0_spread 21 = .ok (.aload_n 0, 1) := by decide +kernel
theorem dX0_spread_22 : decode cX0_spread 22 = .ok (.getfield 48, 3) := by decide +kernel
theorem dX0_spread_25 : decode cX0_spread 25 = .ok (.iload_n 3, 1) := by decide +kernel
theorem dX0_spread_26 : decode cX0_spread 26 = .ok (.baload, 1) := by decide +kernel
theorem dX0_spread_27 : decode cX0_spread 27 = .ok (.ifCond .eq 7, 3) := by decide +kernel
theorem dX0_spread_30 : decode cX0_spread 30 = .ok (.iconst 2, 1) := by decide +kernel
theorem dX0_spread_31 : decode cX0_spread 31 = .ok (.goto 4, 3) := by decide +kernel
theorem dX0_spread_34 : decode cX0_spread 34 = .ok (.iconst 1, 1) := by decide +kernel
theorem dX0_spread_35 : decode cX0_spread 35 = .ok (.isub, 1) := by decide +kernel
theorem dX0_spread_36 : decode cX0_spread 36 = .ok (.istore_n 2, 1) := by decide +kernel
theorem dX0_spread_37 : decode cX0_spread 37 = .ok (.iload_n 2, 1) := by decide +kernel
theorem dX0_spread_38 : decode cX0_spread 38 = .ok (.ifCond .ge 5, 3) := by decide +kernel
theorem dX0_spread_41 : decode cX0_spread 41 = .ok (.iconst 0, 1) := by decide +kernel
theorem dX0_spread_42 : decode cX0_spread 42 = .ok (.istore_n 2, 1) := by decide +kernel
theorem dX0_spread_43 : decode cX0_spread 43 = .ok (.iinc 3 1, 3) := by decide +kernel
theorem dX0_spread_46 : decode cX0_spread 46 = .ok (.goto (-38), 3) := by decide +kernel
theorem dX0_spread_49 : decode cX0_spread 49 = .ok (.return_, 1) := by decide +kernel
theorem dX0_findCats_0 : decode cX0_findCats 0 = .ok (.iconst 0, 1) := by decide +kernel
theorem dX0_findCats_1 : decode cX0_findCats 1 = .ok (.istore_n 1, 1) := by decide +kernel
theorem dX0_findCats_2 : decode cX0_findCats 2 = .ok (.iload_n 1, 1) := by decide +kernel
theorem dX0_findCats_3 : decode cX0_findCats 3 = .ok (.iconst 5, 1) := by decide +kernel
theorem dX0_findCats_4 : decode cX0_findCats 4 = .ok (.if_icmp .ge 16, 3) := by decide +kernel
theorem dX0_findCats_7 : decode cX0_findCats 7 = .ok (.aload_n 0, 1) := by decide +kernel
theorem dX0_findCats_8 : decode cX0_findCats 8 = .ok (.getfield 48, 3) := by decide +kernel
theorem dX0_findCats_11 : decode cX0_findCats 11 = .ok (.iload_n 1, 1) := by decide +kernel
theorem dX0_findCats_12 : decode cX0_findCats 12 = .ok (.iconst 0, 1) := by decide +kernel
theorem dX0_findCats_13 : decode cX0_findCats 13 = .ok (.bastore, 1) := by decide +kernel
theorem dX0_findCats_14 : decode cX0_findCats 14 = .ok (.iinc 1 1, 3) := by decide +kernel
theorem dX0_findCats_17 : decode cX0_findCats 17 = .ok (.goto (-15), 3) := by decide +kernel
theorem dX0_findCats_20 : decode cX0_findCats 20 = .ok (.iconst 0, 1) := by decide +kernel
theorem dX0_findCats_21 : decode cX0_findCats 21 = .ok (.istore_n 1, 1) := by decide +kernel
theorem dX0_findCats_22 : decode cX0_findCats 22 = .ok (.iload_n 1, 1) := by decide +kernel
theorem dX0_findCats_23 : decode cX0_findCats 23 = .ok (.aload_n 0, 1) := by decide +kernel
theorem dX0_findCats_24 : decode cX0_findCats 24 = .ok (.getfield 22, 3) := by decide +kernel
theorem dX0_findCats_27 : decode cX0_findCats 27 = .ok (.if_icmp .ge 43, 3) := by decide +kernel
theorem dX0_findCats_30 : decode cX0_findCats 30 = .ok (.aload_n 0, 1) := by decide +kernel
theorem dX0_findCats_31 : decode cX0_findCats 31 = .ok (.iload_n 1, 1) := by decide +kernel
theorem dX0_findCats_32 : decode cX0_findCats 32 = .ok (.invokevirtual 58, 3) := by decide +kernel
theorem dX0_findCats_35 : decode cX0_findCats 35 = .ok (.astore_n 2, 1) := by decide +kernel
theorem dX0_findCats_36 : decode cX0_findCats 36 = .ok (.aload_n 2, 1) := by decide +kernel
theorem dX0_findCats_37 : decode cX0_findCats 37 = .ok (.getfield 70, 3) := by decide +kernel
theorem dX0_findCats_40 : decode cX0_findCats 40 = .ok (.iconst 3, 1) := by decide +kernel
theorem dX0_findCats_41 : decode cX0_findCats 41 = .ok (.if_icmp .ne 23, 3) := by decide +kernel
theorem dX0_findCats_44 : decode cX0_findCats 44 = .ok (.aload_n 2, 1) := by decide +kernel
theorem dX0_findCats_45 : decode cX0_findCats 45 = .ok (.getfield 73, 3) := by decide +kernel
theorem dX0_findCats_48 : decode cX0_findCats 48 = .ok (.invokestatic 98, 3) := by decide +kernel
theorem dX0_findCats_51 : decode cX0_findCats 51 = .ok (.ifCond .eq 13, 3) := by decide +kernel
theorem dX0_findCats_54 : decode cX0_findCats 54 = .ok (.aload_n 0, 1) := by decide +kernel
theorem dX0_findCats_55 : decode cX0_findCats 55 = .ok (.getfield 48, 3) := by decide +kernel
theorem dX0_findCats_58 : decode cX0_findCats 58 = .ok (.aload_n 2, 1) := by decide +kernel
theorem dX0_findCats_59 : decode cX0_findCats 59 = .ok (.getfield 73, 3) := by decide +kernel
theorem dX0_findCats_62 : decode cX0_findCats 62 = .ok (.iconst 1, 1) := by decide +kernel
theorem dX0_findCats_63 : decode cX0_findCats 63 = .ok (.bastore, 1) := by decide +kernel
theorem dX0_findCats_64 : decode cX0_findCats 64 = .ok (.iinc 1 1, 3) := by decide +kernel
theorem dX0_findCats_67 : decode cX0_findCats 67 = .ok (.goto (-45), 3) := by decide +kernel
theorem dX0_findCats_70 : decode cX0_findCats 70 = .ok (.return_, 1) := by decide +kernel
theorem dX0_reachOn_0 : decode cX0_reachOn 0 = .ok (.iload_n 1, 1) := by decide +kernel
theorem dX0_reachOn_1 : decode cX0_reachOn 1 = .ok (.invokestatic 98, 3) := by decide +kernel
theorem dX0_reachOn_4 : decode cX0_reachOn 4 = .ok (.ifCond .eq 12, 3) := by decide +kernel
theorem dX0_reachOn_7 : decode cX0_reachOn 7 = .ok (.aload_n 0, 1) := by decide +kernel
theorem dX0_reachOn_8 : decode cX0_reachOn 8 = .ok (.getfield 52, 3) := by decide +kernel
theorem dX0_reachOn_11 : decode cX0_reachOn 11 = .ok (.iload_n 1, 1) := by decide +kernel
theorem dX0_reachOn_12 : decode cX0_reachOn 12 = .ok (.iaload, 1) := by decide +kernel
theorem dX0_reachOn_13 : decode cX0_reachOn 13 = .ok (.goto 4, 3) := by decide +kernel
theorem dX0_reachOn_16 : decode cX0_reachOn 16 = .ok (.iconst 0, 1) := by decide +kernel
theorem dX0_reachOn_17 : decode cX0_reachOn 17 = .ok (.ireturn, 1) := by decide +kernel
theorem dX0_isFrightening_0 : decode cX0_isFrightening 0 = .ok (.iload_n 1, 1) := by decide +kernel
theorem dX0_isFrightening_1 : decode cX0_isFrightening 1 = .ok (.invokestatic 98, 3) := by decide +kernel
theorem dX0_isFrightening_4 : decode cX0_isFrightening 4 = .ok (.ifCond .eq 16, 3) := by decide +kernel
theorem dX0_isFrightening_7 : decode cX0_isFrightening 7 = .ok (.aload_n 0, 1) := by decide +kernel
theorem dX0_isFrightening_8 : decode cX0_isFrightening 8 = .ok (.getfield 55, 3) := by decide +kernel
theorem dX0_isFrightening_11 : decode cX0_isFrightening 11 = .ok (.iload_n 1, 1) := by decide +kernel
theorem dX0_isFrightening_12 : decode cX0_isFrightening 12 = .ok (.baload, 1) := by decide +kernel
theorem dX0_isFrightening_13 : decode cX0_isFrightening 13 = .ok (.ifCond .eq 7, 3) := by decide +kernel
theorem dX0_isFrightening_16 : decode cX0_isFrightening 16 = .ok (.iconst 1, 1) := by decide +kernel
theorem dX0_isFrightening_17 : decode cX0_isFrightening 17 = .ok (.goto 4, 3) := by decide +kernel
theorem dX0_isFrightening_20 : decode cX0_isFrightening 20 = .ok (.iconst 0, 1) := by decide +kernel
theorem dX0_isFrightening_21 : decode cX0_isFrightening 21 = .ok (.ireturn, 1) := by decide +kernel
theorem dX0_noteBreakage_0 : decode cX0_noteBreakage 0 = .ok (.aload_n 0, 1) := by decide +kernel
theorem dX0_noteBreakage_1 : decode cX0_noteBreakage 1 = .ok (.dup, 1) := by decide +kernel
theorem dX0_noteBreakage_2 : decode cX0_noteBreakage 2 = .ok (.getfield 45, 3) := by decide +kernel
theorem dX0_noteBreakage_5 : decode cX0_noteBreakage 5 = .ok (.iconst 1, 1) := by decide +kernel
theorem dX0_noteBreakage_6 : decode cX0_noteBreakage 6 = .ok (.iadd, 1) := by decide +kernel
theorem dX0_noteBreakage_7 : decode cX0_noteBreakage 7 = .ok (.putfield 45, 3) := by decide +kernel
theorem dX0_noteBreakage_10 : decode cX0_noteBreakage 10 = .ok (.iload_n 1, 1) := by decide +kernel
theorem dX0_noteBreakage_11 : decode cX0_noteBreakage 11 = .ok (.invokestatic 98, 3) := by decide +kernel
theorem dX0_noteBreakage_14 : decode cX0_noteBreakage 14 = .ok (.ifCond .eq 10, 3) := by decide +kernel
theorem dX0_noteBreakage_17 : decode cX0_noteBreakage 17 = .ok (.aload_n 0, 1) := by decide +kernel
theorem dX0_noteBreakage_18 : decode cX0_noteBreakage 18 = .ok (.getfield 55, 3) := by decide +kernel
theorem dX0_noteBreakage_21 : decode cX0_noteBreakage 21 = .ok (.iload_n 1, 1) := by decide +kernel
theorem dX0_noteBreakage_22 : decode cX0_noteBreakage 22 = .ok (.iconst 1, 1) := by decide +kernel
theorem dX0_noteBreakage_23 : decode cX0_noteBreakage 23 = .ok (.bastore, 1) := by decide +kernel
theorem dX0_noteBreakage_24 : decode cX0_noteBreakage 24 = .ok (.return_, 1) := by decide +kernel
theorem dX0_performShock_0 : decode cX0_performShock 0 = .ok (.aload_n 0, 1) := by decide +kernel
theorem dX0_performShock_1 : decode cX0_performShock 1 = .ok (.iload_n 1, 1) := by decide +kernel
theorem dX0_performShock_2 : decode cX0_performShock 2 = .ok (.invokevirtual 83, 3) := by decide +kernel
theorem dX0_performShock_5 : decode cX0_performShock 5 = .ok (.aload_n 0, 1) := by decide +kernel
theorem dX0_performShock_6 : decode cX0_performShock 6 = .ok (.invokevirtual 102, 3) := by decide +kernel
theorem dX0_performShock_9 : decode cX0_performShock 9 = .ok (.aload_n 0, 1) := by decide +kernel
theorem dX0_performShock_10 : decode cX0_performShock 10 = .ok (.iload_n 1, 1) := by decide +kernel
theorem dX0_performShock_11 : decode cX0_performShock 11 = .ok (.invokevirtual 105, 3) := by decide +kernel
theorem dX0_performShock_14 : decode cX0_performShock 14 = .ok (.aload_n 0, 1) := by decide +kernel
theorem dX0_performShock_15 : decode cX0_performShock 15 = .ok (.invokevirtual 108, 3) := by decide +kernel
theorem dX0_performShock_18 : decode cX0_performShock 18 = .ok (.istore_n 2, 1) := by decide +kernel
theorem dX0_performShock_19 : decode cX0_performShock 19 = .ok (.aload_n 0, 1) := by decide +kernel
theorem dX0_performShock_20 : decode cX0_performShock 20 = .ok (.dup, 1) := by decide +kernel
theorem dX0_performShock_21 : decode cX0_performShock 21 = .ok (.getfield 36, 3) := by decide +kernel
theorem dX0_performShock_24 : decode cX0_performShock 24 = .ok (.iconst 1, 1) := by decide +kernel
theorem dX0_performShock_25 : decode cX0_performShock 25 = .ok (.iadd, 1) := by decide +kernel
theorem dX0_performShock_26 : decode cX0_performShock 26 = .ok (.putfield 36, 3) := by decide +kernel
theorem dX0_performShock_29 : decode cX0_performShock 29 = .ok (.aload_n 0, 1) := by decide +kernel
theorem dX0_performShock_30 : decode cX0_performShock 30 = .ok (.dup, 1) := by decide +kernel
theorem dX0_performShock_31 : decode cX0_performShock 31 = .ok (.getfield 42, 3) := by decide +kernel
theorem dX0_performShock_34 : decode cX0_performShock 34 = .ok (.iload_n 2, 1) := by decide +kernel
theorem dX0_performShock_35 : decode cX0_performShock 35 = .ok (.iadd, 1) := by decide +kernel
theorem dX0_performShock_36 : decode cX0_performShock 36 = .ok (.putfield 42, 3) := by decide +kernel
theorem dX0_performShock_39 : decode cX0_performShock 39 = .ok (.iload_n 2, 1) := by decide +kernel
theorem dX0_performShock_40 : decode cX0_performShock 40 = .ok (.ireturn, 1) := by decide +kernel
theorem dX0_shakeCups_0 : decode cX0_shakeCups 0 = .ok (.iconst 0, 1) := by decide +kernel
theorem dX0_shakeCups_1 : decode cX0_shakeCups 1 = .ok (.istore_n 1, 1) := by decide +kernel
theorem dX0_shakeCups_2 : decode cX0_shakeCups 2 = .ok (.iload_n 1, 1) := by decide +kernel
theorem dX0_shakeCups_3 : decode cX0_shakeCups 3 = .ok (.iconst 5, 1) := by decide +kernel
theorem dX0_shakeCups_4 : decode cX0_shakeCups 4 = .ok (.if_icmp .ge 16, 3) := by decide +kernel
theorem dX0_shakeCups_7 : decode cX0_shakeCups 7 = .ok (.aload_n 0, 1) := by decide +kernel
theorem dX0_shakeCups_8 : decode cX0_shakeCups 8 = .ok (.getfield 55, 3) := by decide +kernel
theorem dX0_shakeCups_11 : decode cX0_shakeCups 11 = .ok (.iload_n 1, 1) := by decide +kernel
theorem dX0_shakeCups_12 : decode cX0_shakeCups 12 = .ok (.iconst 0, 1) := by decide +kernel
theorem dX0_shakeCups_13 : decode cX0_shakeCups 13 = .ok (.bastore, 1) := by decide +kernel
theorem dX0_shakeCups_14 : decode cX0_shakeCups 14 = .ok (.iinc 1 1, 3) := by decide +kernel
theorem dX0_shakeCups_17 : decode cX0_shakeCups 17 = .ok (.goto (-15), 3) := by decide +kernel
theorem dX0_shakeCups_20 : decode cX0_shakeCups 20 = .ok (.iconst 0, 1) := by decide +kernel
theorem dX0_shakeCups_21 : decode cX0_shakeCups 21 = .ok (.istore_n 1, 1) := by decide +kernel
theorem dX0_shakeCups_22 : decode cX0_shakeCups 22 = .ok (.iload_n 1, 1) := by decide +kernel
theorem dX0_shakeCups_23 : decode cX0_shakeCups 23 = .ok (.aload_n 0, 1) := by decide +kernel
theorem dX0_shakeCups_24 : decode cX0_shakeCups 24 = .ok (.getfield 22, 3) := by decide +kernel
theorem dX0_shakeCups_27 : decode cX0_shakeCups 27 = .ok (.if_icmp .ge 46, 3) := by decide +kernel
theorem dX0_shakeCups_30 : decode cX0_shakeCups 30 = .ok (.aload_n 0, 1) := by decide +kernel
theorem dX0_shakeCups_31 : decode cX0_shakeCups 31 = .ok (.iload_n 1, 1) := by decide +kernel
theorem dX0_shakeCups_32 : decode cX0_shakeCups 32 = .ok (.invokevirtual 58, 3) := by decide +kernel
theorem dX0_shakeCups_35 : decode cX0_shakeCups 35 = .ok (.astore_n 2, 1) := by decide +kernel
theorem dX0_shakeCups_36 : decode cX0_shakeCups 36 = .ok (.aload_n 2, 1) := by decide +kernel
theorem dX0_shakeCups_37 : decode cX0_shakeCups 37 = .ok (.getfield 70, 3) := by decide +kernel
theorem dX0_shakeCups_40 : decode cX0_shakeCups 40 = .ok (.iconst 1, 1) := by decide +kernel
theorem dX0_shakeCups_41 : decode cX0_shakeCups 41 = .ok (.if_icmp .ne 26, 3) := by decide +kernel
theorem dX0_shakeCups_44 : decode cX0_shakeCups 44 = .ok (.aload_n 2, 1) := by decide +kernel
theorem dX0_shakeCups_45 : decode cX0_shakeCups 45 = .ok (.aload_n 0, 1) := by decide +kernel
theorem dX0_shakeCups_46 : decode cX0_shakeCups 46 = .ok (.aload_n 2, 1) := by decide +kernel
theorem dX0_shakeCups_47 : decode cX0_shakeCups 47 = .ok (.getfield 73, 3) := by decide +kernel
theorem dX0_shakeCups_50 : decode cX0_shakeCups 50 = .ok (.invokevirtual 87, 3) := by decide +kernel
theorem dX0_shakeCups_53 : decode cX0_shakeCups 53 = .ok (.invokevirtual 112, 3) := by decide +kernel
theorem dX0_shakeCups_56 : decode cX0_shakeCups 56 = .ok (.ifCond .eq 11, 3) := by decide +kernel
theorem dX0_shakeCups_59 : decode cX0_shakeCups 59 = .ok (.aload_n 0, 1) := by decide +kernel
theorem dX0_shakeCups_60 : decode cX0_shakeCups 60 = .ok (.aload_n 2, 1) := by decide +kernel
theorem dX0_shakeCups_61 : decode cX0_shakeCups 61 = .ok (.getfield 73, 3) := by decide +kernel
theorem dX0_shakeCups_64 : decode cX0_shakeCups 64 = .ok (.invokevirtual 115, 3) := by decide +kernel
theorem dX0_shakeCups_67 : decode cX0_shakeCups 67 = .ok (.iinc 1 1, 3) := by decide +kernel
theorem dX0_shakeCups_70 : decode cX0_shakeCups 70 = .ok (.goto (-48), 3) := by decide +kernel
theorem dX0_shakeCups_73 : decode cX0_shakeCups 73 = .ok (.return_, 1) := by decide +kernel
theorem dX0_shakeLamps_0 : decode cX0_shakeLamps 0 = .ok (.iconst 0, 1) := by decide +kernel
theorem dX0_shakeLamps_1 : decode cX0_shakeLamps 1 = .ok (.istore_n 2, 1) := by decide +kernel
theorem dX0_shakeLamps_2 : decode cX0_shakeLamps 2 = .ok (.iload_n 2, 1) := by decide +kernel
theorem dX0_shakeLamps_3 : decode cX0_shakeLamps 3 = .ok (.aload_n 0, 1) := by decide +kernel
theorem dX0_shakeLamps_4 : decode cX0_shakeLamps 4 = .ok (.getfield 22, 3) := by decide +kernel
theorem dX0_shakeLamps_7 : decode cX0_shakeLamps 7 = .ok (.if_icmp .ge 47, 3) := by decide +kernel
theorem dX0_shakeLamps_10 : decode cX0_shakeLamps 10 = .ok (.aload_n 0, 1) := by decide +kernel
theorem dX0_shakeLamps_11 : decode cX0_shakeLamps 11 = .ok (.iload_n 2, 1) := by decide +kernel
theorem dX0_shakeLamps_12 : decode cX0_shakeLamps 12 = .ok (.invokevirtual 58, 3) := by decide +kernel
theorem dX0_shakeLamps_15 : decode cX0_shakeLamps 15 = .ok (.astore_n 3, 1) := by decide +kernel
theorem dX0_shakeLamps_16 : decode cX0_shakeLamps 16 = .ok (.aload_n 3, 1) := by decide +kernel
theorem dX0_shakeLamps_17 : decode cX0_shakeLamps 17 = .ok (.getfield 70, 3) := by decide +kernel
theorem dX0_shakeLamps_20 : decode cX0_shakeLamps 20 = .ok (.iconst 2, 1) := by decide +kernel
theorem dX0_shakeLamps_21 : decode cX0_shakeLamps 21 = .ok (.if_icmp .ne 27, 3) := by decide +kernel
theorem dX0_shakeLamps_24 : decode cX0_shakeLamps 24 = .ok (.aload_n 3, 1) := by decide +kernel
theorem dX0_shakeLamps_25 : decode cX0_shakeLamps 25 = .ok (.aload_n 0, 1) := by decide +kernel
theorem dX0_shakeLamps_26 : decode cX0_shakeLamps 26 = .ok (.aload_n 3, 1) := by decide +kernel
theorem dX0_shakeLamps_27 : decode cX0_shakeLamps 27 = .ok (.getfield 73, 3) := by decide +kernel
theorem dX0_shakeLamps_30 : decode cX0_shakeLamps 30 = .ok (.invokevirtual 87, 3) := by decide +kernel
theorem dX0_shakeLamps_33 : decode cX0_shakeLamps 33 = .ok (.iload_n 1, 1) := by decide +kernel
theorem dX0_shakeLamps_34 : decode cX0_shakeLamps 34 = .ok (.invokevirtual 118, 3) := by decide +kernel
theorem dX0_shakeLamps_37 : decode cX0_shakeLamps 37 = .ok (.ifCond .eq 11, 3) := by decide +kernel
theorem dX0_shakeLamps_40 : decode cX0_shakeLamps 40 = .ok (.aload_n 0, 1) := by decide +kernel
theorem dX0_shakeLamps_41 : decode cX0_shakeLamps 41 = .ok (.aload_n 3, 1) := by decide +kernel
theorem dX0_shakeLamps_42 : decode cX0_shakeLamps 42 = .ok (.getfield 73, 3) := by decide +kernel
theorem dX0_shakeLamps_45 : decode cX0_shakeLamps 45 = .ok (.invokevirtual 115, 3) := by decide +kernel
theorem dX0_shakeLamps_48 : decode cX0_shakeLamps 48 = .ok (.iinc 2 1, 3) := by decide +kernel
theorem dX0_shakeLamps_51 : decode cX0_shakeLamps 51 = .ok (.goto (-49), 3) := by decide +kernel
theorem dX0_shakeLamps_54 : decode cX0_shakeLamps 54 = .ok (.return_, 1) := by decide +kernel
theorem dX0_askCats_0 : decode cX0_askCats 0 = .ok (.iconst 0, 1) := by decide +kernel
theorem dX0_askCats_1 : decode cX0_askCats 1 = .ok (.istore_n 1, 1) := by decide +kernel
theorem dX0_askCats_2 : decode cX0_askCats 2 = .ok (.iconst 0, 1) := by decide +kernel
theorem dX0_askCats_3 : decode cX0_askCats 3 = .ok (.istore_n 2, 1) := by decide +kernel
theorem dX0_askCats_4 : decode cX0_askCats 4 = .ok (.iload_n 2, 1) := by decide +kernel
theorem dX0_askCats_5 : decode cX0_askCats 5 = .ok (.aload_n 0, 1) := by decide +kernel
theorem dX0_askCats_6 : decode cX0_askCats 6 = .ok (.getfield 22, 3) := by decide +kernel
theorem dX0_askCats_9 : decode cX0_askCats 9 = .ok (.if_icmp .ge 46, 3) := by decide +kernel
theorem dX0_askCats_12 : decode cX0_askCats 12 = .ok (.aload_n 0, 1) := by decide +kernel
theorem dX0_askCats_13 : decode cX0_askCats 13 = .ok (.iload_n 2, 1) := by decide +kernel
theorem dX0_askCats_14 : decode cX0_askCats 14 = .ok (.invokevirtual 58, 3) := by decide +kernel
theorem dX0_askCats_17 : decode cX0_askCats 17 = .ok (.astore_n 3, 1) := by decide +kernel
theorem dX0_askCats_18 : decode cX0_askCats 18 = .ok (.aload_n 3, 1) := by decide +kernel
theorem dX0_askCats_19 : decode cX0_askCats 19 = .ok (.getfield 70, 3) := by decide +kernel
theorem dX0_askCats_22 : decode cX0_askCats 22 = .ok (.iconst 3, 1) := by decide +kernel
theorem dX0_askCats_23 : decode cX0_askCats 23 = .ok (.if_icmp .ne 26, 3) := by decide +kernel
theorem dX0_askCats_26 : decode cX0_askCats 26 = .ok (.iload_n 1, 1) := by decide +kernel
theorem dX0_askCats_27 : decode cX0_askCats 27 = .ok (.aload_n 3, 1) := by decide +kernel
theorem dX0_askCats_28 : decode cX0_askCats 28 = .ok (.aload_n 0, 1) := by decide +kernel
theorem dX0_askCats_29 : decode cX0_askCats 29 = .ok (.aload_n 3, 1) := by decide +kernel
theorem dX0_askCats_30 : decode cX0_askCats 30 = .ok (.getfield 73, 3) := by decide +kernel
theorem dX0_askCats_33 : decode cX0_askCats 33 = .ok (.invokevirtual 87, 3) := by decide +kernel
theorem dX0_askCats_36 : decode cX0_askCats 36 = .ok (.aload_n 0, 1) := by decide +kernel
theorem dX0_askCats_37 : decode cX0_askCats 37 = .ok (.aload_n 3, 1) := by decide +kernel
theorem dX0_askCats_38 : decode cX0_askCats 38 = .ok (.getfield 73, 3) := by decide +kernel
theorem dX0_askCats_41 : decode cX0_askCats 41 = .ok (.invokevirtual 122, 3) := by decide +kernel
theorem dX0_askCats_44 : decode cX0_askCats 44 = .ok (.invokevirtual 125, 3) := by decide +kernel
theorem dX0_askCats_47 : decode cX0_askCats 47 = .ok (.iadd, 1) := by decide +kernel
theorem dX0_askCats_48 : decode cX0_askCats 48 = .ok (.istore_n 1, 1) := by decide +kernel
theorem dX0_askCats_49 : decode cX0_askCats 49 = .ok (.iinc 2 1, 3) := by decide +kernel
theorem dX0_askCats_52 : decode cX0_askCats 52 = .ok (.goto (-48), 3) := by decide +kernel
theorem dX0_askCats_55 : decode cX0_askCats 55 = .ok (.iload_n 1, 1) := by decide +kernel
theorem dX0_askCats_56 : decode cX0_askCats 56 = .ok (.ireturn, 1) := by decide +kernel
theorem dX0_performProgramme_0 : decode cX0_performProgramme 0 = .ok (.aload_n 0, 1) := by decide +kernel
theorem dX0_performProgramme_1 : decode cX0_performProgramme 1 = .ok (.iconst 3, 1) := by decide +kernel
theorem dX0_performProgramme_2 : decode cX0_performProgramme 2 = .ok (.invokevirtual 129, 3) := by decide +kernel
theorem dX0_performProgramme_5 : decode cX0_performProgramme 5 = .ok (.istore_n 1, 1) := by decide +kernel
theorem dX0_performProgramme_6 : decode cX0_performProgramme 6 = .ok (.iconst 0, 1) := by decide +kernel
theorem dX0_performProgramme_7 : decode cX0_performProgramme 7 = .ok (.istore_n 2, 1) := by decide +kernel
theorem dX0_performProgramme_8 : decode cX0_performProgramme 8 = .ok (.iconst 0, 1) := by decide +kernel
theorem dX0_performProgramme_9 : decode cX0_performProgramme 9 = .ok (.istore_n 3, 1) := by decide +kernel
theorem dX0_performProgramme_10 : decode cX0_performProgramme 10 = .ok (.iload_n 3, 1) := by decide +kernel
theorem dX0_performProgramme_11 : decode cX0_performProgramme 11 = .ok (.aload_n 0, 1) := by decide +kernel
theorem dX0_performProgramme_12 : decode cX0_performProgramme 12 = .ok (.getfield 30, 3) := by decide +kernel
theorem dX0_performProgramme_15 : decode cX0_performProgramme 15 = .ok (.if_icmp .ge 57, 3) := by decide +kernel
theorem dX0_performProgramme_18 : decode cX0_performProgramme 18 = .ok (.aload_n 0, 1) := by decide +kernel
theorem dX0_performProgramme_19 : decode cX0_performProgramme 19 = .ok (.iload_n 3, 1) := by decide +kernel
theorem dX0_performProgramme_20 : decode cX0_performProgramme 20 = .ok (.invokevirtual 132, 3) := by decide +kernel
theorem dX0_performProgramme_23 : decode cX0_performProgramme 23 = .ok (.iconst 2, 1) := by decide +kernel
theorem dX0_performProgramme_24 : decode cX0_performProgramme 24 = .ok (.idiv, 1) := by decide +kernel
theorem dX0_performProgramme_25 : decode cX0_performProgramme 25 = .ok (.istore 4, 2) := by decide +kernel
theorem dX0_performProgramme_27 : decode cX0_performProgramme 27 = .ok (.aload_n 0, 1) := by decide +kernel
theorem dX0_performProgramme_28 : decode cX0_performProgramme 28 = .ok (.aload_n 0, 1) := by decide +kernel
theorem dX0_performProgramme_29 : decode cX0_performProgramme 29 = .ok (.iload_n 3, 1) := by decide +kernel
theorem dX0_performProgramme_30 : decode cX0_performProgramme 30 = .ok (.invokevirtual 132, 3) := by decide +kernel
theorem dX0_performProgramme_33 : decode cX0_performProgramme 33 = .ok (.invokevirtual 135, 3) := by decide +kernel
theorem dX0_performProgramme_36 : decode cX0_performProgramme 36 = .ok (.istore 5, 2) := by decide +kernel
theorem dX0_performProgramme_38 : decode cX0_performProgramme 38 = .ok (.iload_n 1, 1) := by decide +kernel
theorem dX0_performProgramme_39 : decode cX0_performProgramme 39 = .ok (.ifCond .le 27, 3) := by decide +kernel
theorem dX0_performProgramme_42 : decode cX0_performProgramme 42 = .ok (.iload 5, 2) := by decide +kernel
theorem dX0_performProgramme_44 : decode cX0_performProgramme 44 = .ok (.iconst 3, 1) := by decide +kernel
theorem dX0_performProgramme_45 : decode cX0_performProgramme 45 = .ok (.iload_n 1, 1) := by decide +kernel
theorem dX0_performProgramme_46 : decode cX0_performProgramme 46 = .ok (.imul, 1) := by decide +kernel
theorem dX0_performProgramme_47 : decode cX0_performProgramme 47 = .ok (.if_icmp .lt 19, 3) := by decide +kernel
theorem dX0_performProgramme_50 : decode cX0_performProgramme 50 = .ok (.iload 4, 2) := by decide +kernel
theorem dX0_performProgramme_52 : decode cX0_performProgramme 52 = .ok (.iconst 1, 1) := by decide +kernel
theorem dX0_performProgramme_53 : decode cX0_performProgramme 53 = .ok (.if_icmp .lt 13, 3) := by decide +kernel
theorem dX0_performProgramme_56 : decode cX0_performProgramme 56 = .ok (.aload_n 0, 1) := by decide +kernel
theorem dX0_performProgramme_57 : decode cX0_performProgramme 57 = .ok (.iload 4, 2) := by decide +kernel
theorem dX0_performProgramme_59 : decode cX0_performProgramme 59 = .ok (.invokevirtual 135, 3) := by decide +kernel
theorem dX0_performProgramme_62 : decode cX0_performProgramme 62 = .ok (.pop, 1) := by decide +kernel
theorem dX0_performProgramme_63 : decode cX0_performProgramme 63 = .ok (.iinc 2 1, 3) := by decide +kernel
theorem dX0_performProgramme_66 : decode cX0_performProgramme 66 = .ok (.iinc 3 1, 3) := by decide +kernel
theorem dX0_performProgramme_69 : decode cX0_performProgramme 69 = .ok (.goto (-59), 3) := by decide +kernel
theorem dX0_performProgramme_72 : decode cX0_performProgramme 72 = .ok (.aload_n 0, 1) := by decide +kernel
theorem dX0_performProgramme_73 : decode cX0_performProgramme 73 = .ok (.iconst 0, 1) := by decide +kernel
theorem dX0_performProgramme_74 : decode cX0_performProgramme 74 = .ok (.putfield 30, 3) := by decide +kernel
theorem dX0_performProgramme_77 : decode cX0_performProgramme 77 = .ok (.aload_n 0, 1) := by decide +kernel
theorem dX0_performProgramme_78 : decode cX0_performProgramme 78 = .ok (.dup, 1) := by decide +kernel
theorem dX0_performProgramme_79 : decode cX0_performProgramme 79 = .ok (.getfield 39, 3) := by decide +kernel
theorem dX0_performProgramme_82 : decode cX0_performProgramme 82 = .ok (.iload_n 2, 1) := by decide +kernel
theorem dX0_performProgramme_83 : decode cX0_performProgramme 83 = .ok (.iadd, 1) := by decide +kernel
theorem dX0_performProgramme_84 : decode cX0_performProgramme 84 = .ok (.putfield 39, 3) := by decide +kernel
theorem dX0_performProgramme_87 : decode cX0_performProgramme 87 = .ok (.iload_n 2, 1) := by decide +kernel
theorem dX0_performProgramme_88 : decode cX0_performProgramme 88 = .ok (.ireturn, 1) := by decide +kernel
theorem dX0_calm_0 : decode cX0_calm 0 = .ok (.iconst 0, 1) := by decide +kernel
theorem dX0_calm_1 : decode cX0_calm 1 = .ok (.istore_n 1, 1) := by decide +kernel
theorem dX0_calm_2 : decode cX0_calm 2 = .ok (.iconst 0, 1) := by decide +kernel
theorem dX0_calm_3 : decode cX0_calm 3 = .ok (.istore_n 2, 1) := by decide +kernel
theorem dX0_calm_4 : decode cX0_calm 4 = .ok (.iload_n 2, 1) := by decide +kernel
theorem dX0_calm_5 : decode cX0_calm 5 = .ok (.aload_n 0, 1) := by decide +kernel
theorem dX0_calm_6 : decode cX0_calm 6 = .ok (.getfield 22, 3) := by decide +kernel
theorem dX0_calm_9 : decode cX0_calm 9 = .ok (.if_icmp .ge 47, 3) := by decide +kernel
theorem dX0_calm_12 : decode cX0_calm 12 = .ok (.aload_n 0, 1) := by decide +kernel
theorem dX0_calm_13 : decode cX0_calm 13 = .ok (.iload_n 2, 1) := by decide +kernel
theorem dX0_calm_14 : decode cX0_calm 14 = .ok (.invokevirtual 58, 3) := by decide +kernel
theorem dX0_calm_17 : decode cX0_calm 17 = .ok (.astore_n 3, 1) := by decide +kernel
theorem dX0_calm_18 : decode cX0_calm 18 = .ok (.aload_n 3, 1) := by decide +kernel
theorem dX0_calm_19 : decode cX0_calm 19 = .ok (.getfield 70, 3) := by decide +kernel
theorem dX0_calm_22 : decode cX0_calm 22 = .ok (.iconst 2, 1) := by decide +kernel
theorem dX0_calm_23 : decode cX0_calm 23 = .ok (.if_icmp .ne 27, 3) := by decide +kernel
theorem dX0_calm_26 : decode cX0_calm 26 = .ok (.aload_n 3, 1) := by decide +kernel
theorem dX0_calm_27 : decode cX0_calm 27 = .ok (.getfield 76, 3) := by decide +kernel
theorem dX0_calm_30 : decode cX0_calm 30 = .ok (.ifCond .ne 20, 3) := by decide +kernel
theorem dX0_calm_33 : decode cX0_calm 33 = .ok (.aload_n 3, 1) := by decide +kernel
theorem dX0_calm_34 : decode cX0_calm 34 = .ok (.dup, 1) := by decide +kernel
theorem dX0_calm_35 : decode cX0_calm 35 = .ok (.getfield 138, 3) := by decide +kernel
theorem dX0_calm_38 : decode cX0_calm 38 = .ok (.iconst 2, 1) := by decide +kernel
theorem dX0_calm_39 : decode cX0_calm 39 = .ok (.idiv, 1) := by decide +kernel
theorem dX0_calm_40 : decode cX0_calm 40 = .ok (.putfield 138, 3) := by decide +kernel
theorem dX0_calm_43 : decode cX0_calm 43 = .ok (.iload_n 1, 1) := by decide +kernel
theorem dX0_calm_44 : decode cX0_calm 44 = .ok (.aload_n 3, 1) := by decide +kernel
theorem dX0_calm_45 : decode cX0_calm 45 = .ok (.getfield 138, 3) := by decide +kernel
theorem dX0_calm_48 : decode cX0_calm 48 = .ok (.iadd, 1) := by decide +kernel
theorem dX0_calm_49 : decode cX0_calm 49 = .ok (.istore_n 1, 1) := by decide +kernel
theorem dX0_calm_50 : decode cX0_calm 50 = .ok (.iinc 2 1, 3) := by decide +kernel
theorem dX0_calm_53 : decode cX0_calm 53 = .ok (.goto (-49), 3) := by decide +kernel
theorem dX0_calm_56 : decode cX0_calm 56 = .ok (.iload_n 1, 1) := by decide +kernel
theorem dX0_calm_57 : decode cX0_calm 57 = .ok (.ireturn, 1) := by decide +kernel
theorem dX0_breakagesPropByProp_0 : decode cX0_breakagesPropByProp 0 = .ok (.iconst 0, 1) := by decide +kernel
theorem dX0_breakagesPropByProp_1 : decode cX0_breakagesPropByProp 1 = .ok (.istore_n 2, 1) := by decide +kernel
theorem dX0_breakagesPropByProp_2 : decode cX0_breakagesPropByProp 2 = .ok (.iconst 0, 1) := by decide +kernel
theorem dX0_breakagesPropByProp_3 : decode cX0_breakagesPropByProp 3 = .ok (.istore_n 3, 1) := by decide +kernel
theorem dX0_breakagesPropByProp_4 : decode cX0_breakagesPropByProp 4 = .ok (.iload_n 3, 1) := by decide +kernel
theorem dX0_breakagesPropByProp_5 : decode cX0_breakagesPropByProp 5 = .ok (.aload_n 0, 1) := by decide +kernel
theorem dX0_breakagesPropByProp_6 : decode cX0_breakagesPropByProp 6 = .ok (.getfield 22, 3) := by decide +kernel
theorem dX0_breakagesPropByProp_9 : decode cX0_breakagesPropByProp 9 = .ok (.if_icmp .ge 38, 3) := by decide +kernel
theorem dX0_breakagesPropByProp_12 : decode cX0_breakagesPropByProp 12 = .ok (.aload_n 0, 1) := by decide +kernel
theorem dX0_breakagesPropByProp_13 : decode cX0_breakagesPropByProp 13 = .ok (.iload_n 3, 1) := by decide +kernel
theorem dX0_breakagesPropByProp_14 : decode cX0_breakagesPropByProp 14 = .ok (.invokevirtual 58, 3) := by decide +kernel
theorem dX0_breakagesPropByProp_17 : decode cX0_breakagesPropByProp 17 = .ok (.astore 4, 2) := by decide +kernel
theorem dX0_breakagesPropByProp_19 : decode cX0_breakagesPropByProp 19 = .ok (.aload 4, 2) := by decide +kernel
theorem dX0_breakagesPropByProp_21 : decode cX0_breakagesPropByProp 21 = .ok (.aload_n 0, 1) := by decide +kernel
theorem dX0_breakagesPropByProp_22 : decode cX0_breakagesPropByProp 22 = .ok (.iload_n 1, 1) := by decide +kernel
theorem dX0_breakagesPropByProp_23 : decode cX0_breakagesPropByProp 23 = .ok (.aload 4, 2) := by decide +kernel
theorem dX0_breakagesPropByProp_25 : decode cX0_breakagesPropByProp 25 = .ok (.getfield 73, 3) := by decide +kernel
theorem dX0_breakagesPropByProp_28 : decode cX0_breakagesPropByProp 28 = .ok (.invokevirtual 141, 3) := by decide +kernel
theorem dX0_breakagesPropByProp_31 : decode cX0_breakagesPropByProp 31 = .ok (.iload_n 1, 1) := by decide +kernel
theorem dX0_breakagesPropByProp_32 : decode cX0_breakagesPropByProp 32 = .ok (.invokevirtual 144, 3) := by decide +kernel
theorem dX0_breakagesPropByProp_35 : decode cX0_breakagesPropByProp 35 = .ok (.ifCond .eq 6, 3) := by decide +kernel
theorem dX0_breakagesPropByProp_38 : decode cX0_breakagesPropByProp 38 = .ok (.iinc 2 1, 3) := by decide +kernel
theorem dX0_breakagesPropByProp_41 : decode cX0_breakagesPropByProp 41 = .ok (.iinc 3 1, 3) := by decide +kernel
theorem dX0_breakagesPropByProp_44 : decode cX0_breakagesPropByProp 44 = .ok (.goto (-40), 3) := by decide +kernel
theorem dX0_breakagesPropByProp_47 : decode cX0_breakagesPropByProp 47 = .ok (.iload_n 2, 1) := by decide +kernel
theorem dX0_breakagesPropByProp_48 : decode cX0_breakagesPropByProp 48 = .ok (.ireturn, 1) := by decide +kernel
theorem dX0_isDamageRight_0 : decode cX0_isDamageRight 0 = .ok (.iconst 0, 1) := by decide +kernel
theorem dX0_isDamageRight_1 : decode cX0_isDamageRight 1 = .ok (.istore_n 1, 1) := by decide +kernel
theorem dX0_isDamageRight_2 : decode cX0_isDamageRight 2 = .ok (.iload_n 1, 1) := by decide +kernel
theorem dX0_isDamageRight_3 : decode cX0_isDamageRight 3 = .ok (.aload_n 0, 1) := by decide +kernel
theorem dX0_isDamageRight_4 : decode cX0_isDamageRight 4 = .ok (.getfield 22, 3) := by decide +kernel
theorem dX0_isDamageRight_7 : decode cX0_isDamageRight 7 = .ok (.if_icmp .ge 22, 3) := by decide +kernel
theorem dX0_isDamageRight_10 : decode cX0_isDamageRight 10 = .ok (.aload_n 0, 1) := by decide +kernel
theorem dX0_isDamageRight_11 : decode cX0_isDamageRight 11 = .ok (.iload_n 1, 1) := by decide +kernel
theorem dX0_isDamageRight_12 : decode cX0_isDamageRight 12 = .ok (.invokevirtual 58, 3) := by decide +kernel
theorem dX0_isDamageRight_15 : decode cX0_isDamageRight 15 = .ok (.invokevirtual 147, 3) := by decide +kernel
theorem dX0_isDamageRight_18 : decode cX0_isDamageRight 18 = .ok (.ifCond .ne 5, 3) := by decide +kernel
theorem dX0_isDamageRight_21 : decode cX0_isDamageRight 21 = .ok (.iconst 0, 1) := by decide +kernel
theorem dX0_isDamageRight_22 : decode cX0_isDamageRight 22 = .ok (.ireturn, 1) := by decide +kernel
theorem dX0_isDamageRight_23 : decode cX0_isDamageRight 23 = .ok (.iinc 1 1, 3) := by decide +kernel
theorem dX0_isDamageRight_26 : decode cX0_isDamageRight 26 = .ok (.goto (-24), 3) := by decide +kernel
theorem dX0_isDamageRight_29 : decode cX0_isDamageRight 29 = .ok (.iconst 1, 1) := by decide +kernel
theorem dX0_isDamageRight_30 : decode cX0_isDamageRight 30 = .ok (.ireturn, 1) := by decide +kernel
theorem dX0_numberInOrder_0 : decode cX0_numberInOrder 0 = .ok (.iconst 0, 1) := by decide +kernel
theorem dX0_numberInOrder_1 : decode cX0_numberInOrder 1 = .ok (.istore_n 3, 1) := by decide +kernel
theorem dX0_numberInOrder_2 : decode cX0_numberInOrder 2 = .ok (.iload_n 3, 1) := by decide +kernel
theorem dX0_numberInOrder_3 : decode cX0_numberInOrder 3 = .ok (.aload_n 0, 1) := by decide +kernel
theorem dX0_numberInOrder_4 : decode cX0_numberInOrder 4 = .ok (.getfield 22, 3) := by decide +kernel
theorem dX0_numberInOrder_7 : decode cX0_numberInOrder 7 = .ok (.if_icmp .ge 32, 3) := by decide +kernel
theorem dX0_numberInOrder_10 : decode cX0_numberInOrder 10 = .ok (.aload_n 0, 1) := by decide +kernel
theorem dX0_numberInOrder_11 : decode cX0_numberInOrder 11 = .ok (.iload_n 3, 1) := by decide +kernel
theorem dX0_numberInOrder_12 : decode cX0_numberInOrder 12 = .ok (.invokevirtual 58, 3) := by decide +kernel
theorem dX0_numberInOrder_15 : decode cX0_numberInOrder 15 = .ok (.getfield 70, 3) := by decide +kernel
theorem dX0_numberInOrder_18 : decode cX0_numberInOrder 18 = .ok (.iload_n 1, 1) := by decide +kernel
theorem dX0_numberInOrder_19 : decode cX0_numberInOrder 19 = .ok (.if_icmp .ne 14, 3) := by decide +kernel
theorem dX0_numberInOrder_22 : decode cX0_numberInOrder 22 = .ok (.aload_n 0, 1) := by decide +kernel
theorem dX0_numberInOrder_23 : decode cX0_numberInOrder 23 = .ok (.iload_n 3, 1) := by decide +kernel
theorem dX0_numberInOrder_24 : decode cX0_numberInOrder 24 = .ok (.invokevirtual 151, 3) := by decide +kernel
theorem dX0_numberInOrder_27 : decode cX0_numberInOrder 27 = .ok (.iload_n 2, 1) := by decide +kernel
theorem dX0_numberInOrder_28 : decode cX0_numberInOrder 28 = .ok (.if_icmp .ne 5, 3) := by decide +kernel
theorem dX0_numberInOrder_31 : decode cX0_numberInOrder 31 = .ok (.iload_n 3, 1) := by decide +kernel
theorem dX0_numberInOrder_32 : decode cX0_numberInOrder 32 = .ok (.ireturn, 1) := by decide +kernel
theorem dX0_numberInOrder_33 : decode cX0_numberInOrder 33 = .ok (.iinc 3 1, 3) := by decide +kernel
theorem dX0_numberInOrder_36 : decode cX0_numberInOrder 36 = .ok (.goto (-34), 3) := by decide +kernel
theorem dX0_numberInOrder_39 : decode cX0_numberInOrder 39 = .ok (.iconst (-1), 1) := by decide +kernel
theorem dX0_numberInOrder_40 : decode cX0_numberInOrder 40 = .ok (.ireturn, 1) := by decide +kernel
theorem dX0_countAhead_0 : decode cX0_countAhead 0 = .ok (.aload_n 0, 1) := by decide +kernel
theorem dX0_countAhead_1 : decode cX0_countAhead 1 = .ok (.iload_n 1, 1) := by decide +kernel
theorem dX0_countAhead_2 : decode cX0_countAhead 2 = .ok (.invokevirtual 58, 3) := by decide +kernel
theorem dX0_countAhead_5 : decode cX0_countAhead 5 = .ok (.astore_n 2, 1) := by decide +kernel
theorem dX0_countAhead_6 : decode cX0_countAhead 6 = .ok (.iconst 0, 1) := by decide +kernel
theorem dX0_countAhead_7 : decode cX0_countAhead 7 = .ok (.istore_n 3, 1) := by decide +kernel
theorem dX0_countAhead_8 : decode cX0_countAhead 8 = .ok (.iconst 0, 1) := by decide +kernel
theorem dX0_countAhead_9 : decode cX0_countAhead 9 = .ok (.istore 4, 2) := by decide +kernel
theorem dX0_countAhead_11 : decode cX0_countAhead 11 = .ok (.iload 4, 2) := by decide +kernel
theorem dX0_countAhead_13 : decode cX0_countAhead 13 = .ok (.aload_n 0, 1) := by decide +kernel
theorem dX0_countAhead_14 : decode cX0_countAhead 14 = .ok (.getfield 22, 3) := by decide +kernel
theorem dX0_countAhead_17 : decode cX0_countAhead 17 = .ok (.if_icmp .ge 56, 3) := by decide +kernel
theorem dX0_countAhead_20 : decode cX0_countAhead 20 = .ok (.aload_n 0, 1) := by decide +kernel
theorem dX0_countAhead_21 : decode cX0_countAhead 21 = .ok (.iload 4, 2) := by decide +kernel
theorem dX0_countAhead_23 : decode cX0_countAhead 23 = .ok (.invokevirtual 58, 3) := by decide +kernel
theorem dX0_countAhead_26 : decode cX0_countAhead 26 = .ok (.astore 5, 2) := by decide +kernel
theorem dX0_countAhead_28 : decode cX0_countAhead 28 = .ok (.aload 5, 2) := by decide +kernel
theorem dX0_countAhead_30 : decode cX0_countAhead 30 = .ok (.aload_n 2, 1) := by decide +kernel
theorem dX0_countAhead_31 : decode cX0_countAhead 31 = .ok (.invokevirtual 154, 3) := by decide +kernel
theorem dX0_countAhead_34 : decode cX0_countAhead 34 = .ok (.istore 6, 2) := by decide +kernel
theorem dX0_countAhead_36 : decode cX0_countAhead 36 = .ok (.aload 5, 2) := by decide +kernel
theorem dX0_countAhead_38 : decode cX0_countAhead 38 = .ok (.getfield 70, 3) := by decide +kernel
theorem dX0_countAhead_41 : decode cX0_countAhead 41 = .ok (.aload_n 2, 1) := by decide +kernel
theorem dX0_countAhead_42 : decode cX0_countAhead 42 = .ok (.getfield 70, 3) := by decide +kernel
theorem dX0_countAhead_45 : decode cX0_countAhead 45 = .ok (.if_icmp .ne 22, 3) := by decide +kernel
theorem dX0_countAhead_48 : decode cX0_countAhead 48 = .ok (.iload 6, 2) := by decide +kernel
theorem dX0_countAhead_50 : decode cX0_countAhead 50 = .ok (.ifCond .lt 14, 3) := by decide +kernel
theorem dX0_countAhead_53 : decode cX0_countAhead 53 = .ok (.iload 6, 2) := by decide +kernel
theorem dX0_countAhead_55 : decode cX0_countAhead 55 = .ok (.ifCond .ne 12, 3) := by decide +kernel
theorem dX0_countAhead_58 : decode cX0_countAhead 58 = .ok (.iload 4, 2) := by decide +kernel
theorem dX0_countAhead_60 : decode cX0_countAhead 60 = .ok (.iload_n 1, 1) := by decide +kernel
theorem dX0_countAhead_61 : decode cX0_countAhead 61 = .ok (.if_icmp .ge 6, 3) := by decide +kernel
theorem dX0_countAhead_64 : decode cX0_countAhead 64 = .ok (.iinc 3 1, 3) := by decide +kernel
theorem dX0_countAhead_67 : decode cX0_countAhead 67 = .ok (.iinc 4 1, 3) := by decide +kernel
theorem dX0_countAhead_70 : decode cX0_countAhead 70 = .ok (.goto (-59), 3) := by decide +kernel
theorem dX0_countAhead_73 : decode cX0_countAhead 73 = .ok (.iload_n 3, 1) := by decide +kernel
theorem dX0_countAhead_74 : decode cX0_countAhead 74 = .ok (.ireturn, 1) := by decide +kernel
