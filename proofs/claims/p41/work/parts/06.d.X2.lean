theorem dX2_init_0 : decode cX2_init 0 = .ok (.aload_n 0, 1) := by decide +kernel
theorem dX2_init_1 : decode cX2_init 1 = .ok (.invokespecial 3, 3) := by decide +kernel
theorem dX2_init_4 : decode cX2_init 4 = .ok (.aload_n 0, 1) := by decide +kernel
theorem dX2_init_5 : decode cX2_init 5 = .ok (.bipush 16, 2) := by decide +kernel
theorem dX2_init_7 : decode cX2_init 7 = .ok (.newarray .char, 2) := by decide +kernel
theorem dX2_init_9 : decode cX2_init 9 = .ok (.putfield 9, 3) := by decide +kernel
theorem dX2_init_12 : decode cX2_init 12 = .ok (.aload_n 0, 1) := by decide +kernel
theorem dX2_init_13 : decode cX2_init 13 = .ok (.iconst 0, 1) := by decide +kernel
theorem dX2_init_14 : decode cX2_init 14 = .ok (.putfield 15, 3) := by decide +kernel
theorem dX2_init_17 : decode cX2_init 17 = .ok (.return_, 1) := by decide +kernel
theorem dX2_signAt_0 : decode cX2_signAt 0 = .ok (.iload_n 1, 1) := by decide +kernel
theorem dX2_signAt_1 : decode cX2_signAt 1 = .ok (.ifCond .lt 21, 3) := by decide +kernel
theorem dX2_signAt_4 : decode cX2_signAt 4 = .ok (.iload_n 1, 1) := by decide +kernel
theorem dX2_signAt_5 : decode cX2_signAt 5 = .ok (.aload_n 0, 1) := by decide +kernel
theorem dX2_signAt_6 : decode cX2_signAt 6 = .ok (.getfield 9, 3) := by decide +kernel
theorem dX2_signAt_9 : decode cX2_signAt 9 = .ok (.arraylength, 1) := by decide +kernel
theorem dX2_signAt_10 : decode cX2_signAt 10 = .ok (.if_icmp .ge 12, 3) := by decide +kernel
theorem dX2_signAt_13 : decode cX2_signAt 13 = .ok (.aload_n 0, 1) := by decide +kernel
theorem dX2_signAt_14 : decode cX2_signAt 14 = .ok (.getfield 9, 3) := by decide +kernel
theorem dX2_signAt_17 : decode cX2_signAt 17 = .ok (.iload_n 1, 1) := by decide +kernel
theorem dX2_signAt_18 : decode cX2_signAt 18 = .ok (.caload, 1) := by decide +kernel
theorem dX2_signAt_19 : decode cX2_signAt 19 = .ok (.goto 5, 3) := by decide +kernel
theorem dX2_signAt_22 : decode cX2_signAt 22 = .ok (.bipush 32, 2) := by decide +kernel
theorem dX2_signAt_24 : decode cX2_signAt 24 = .ok (.ireturn, 1) := by decide +kernel
theorem dX2_put_0 : decode cX2_put 0 = .ok (.aload_n 0, 1) := by decide +kernel
theorem dX2_put_1 : decode cX2_put 1 = .ok (.getfield 15, 3) := by decide +kernel
theorem dX2_put_4 : decode cX2_put 4 = .ok (.ifCond .lt 35, 3) := by decide +kernel
theorem dX2_put_7 : decode cX2_put 7 = .ok (.aload_n 0, 1) := by decide +kernel
theorem dX2_put_8 : decode cX2_put 8 = .ok (.getfield 15, 3) := by decide +kernel
theorem dX2_put_11 : decode cX2_put 11 = .ok (.aload_n 0, 1) := by decide +kernel
theorem dX2_put_12 : decode cX2_put 12 = .ok (.getfield 9, 3) := by decide +kernel
theorem dX2_put_15 : decode cX2_put 15 = .ok (.arraylength, 1) := by decide +kernel
theorem dX2_put_16 : decode cX2_put 16 = .ok (.if_icmp .ge 23, 3) := by decide +kernel
theorem dX2_put_19 : decode cX2_put 19 = .ok (.aload_n 0, 1) := by decide +kernel
theorem dX2_put_20 : decode cX2_put 20 = .ok (.getfield 9, 3) := by decide +kernel
theorem dX2_put_23 : decode cX2_put 23 = .ok (.aload_n 0, 1) := by decide +kernel
theorem dX2_put_24 : decode cX2_put 24 = .ok (.getfield 15, 3) := by decide +kernel
theorem dX2_put_27 : decode cX2_put 27 = .ok (.iload_n 1, 1) := by decide +kernel
theorem dX2_put_28 : decode cX2_put 28 = .ok (.castore, 1) := by decide +kernel
theorem dX2_put_29 : decode cX2_put 29 = .ok (.aload_n 0, 1) := by decide +kernel
theorem dX2_put_30 : decode cX2_put 30 = .ok (.dup, 1) := by decide +kernel
theorem dX2_put_31 : decode cX2_put 31 = .ok (.getfield 15, 3) := by decide +kernel
theorem dX2_put_34 : decode cX2_put 34 = .ok (.iconst 1, 1) := by decide +kernel
theorem dX2_put_35 : decode cX2_put 35 = .ok (.iadd, 1) := by decide +kernel
theorem dX2_put_36 : decode cX2_put 36 = .ok (.putfield 15, 3) := by decide +kernel
theorem dX2_put_39 : decode cX2_put 39 = .ok (.return_, 1) := by decide +kernel
theorem dX2_putNumber_0 : decode cX2_putNumber 0 = .ok (.iload_n 1, 1) := by decide +kernel
theorem dX2_putNumber_1 : decode cX2_putNumber 1 = .ok (.bipush 9, 2) := by decide +kernel
theorem dX2_putNumber_3 : decode cX2_putNumber 3 = .ok (.if_icmp .le 15, 3) := by decide +kernel
theorem dX2_putNumber_6 : decode cX2_putNumber 6 = .ok (.aload_n 0, 1) := by decide +kernel
theorem dX2_putNumber_7 : decode cX2_putNumber 7 = .ok (.bipush 48, 2) := by decide +kernel
theorem dX2_putNumber_9 : decode cX2_putNumber 9 = .ok (.iload_n 1, 1) := by decide +kernel
theorem dX2_putNumber_10 : decode cX2_putNumber 10 = .ok (.bipush 10, 2) := by decide +kernel
theorem dX2_putNumber_12 : decode cX2_putNumber 12 = .ok (.idiv, 1) := by decide +kernel
theorem dX2_putNumber_13 : decode cX2_putNumber 13 = .ok (.iadd, 1) := by decide +kernel
theorem dX2_putNumber_14 : decode cX2_putNumber 14 = .ok (.i2c, 1) := by decide +kernel
theorem dX2_putNumber_15 : decode cX2_putNumber 15 = .ok (.invokevirtual 19, 3) := by decide +kernel
theorem dX2_putNumber_18 : decode cX2_putNumber 18 = .ok (.aload_n 0, 1) := by decide +kernel
theorem dX2_putNumber_19 : decode cX2_putNumber 19 = .ok (.bipush 48, 2) := by decide +kernel
theorem dX2_putNumber_21 : decode cX2_putNumber 21 = .ok (.iload_n 1, 1) := by decide +kernel
theorem dX2_putNumber_22 : decode cX2_putNumber 22 = .ok (.bipush 10, 2) := by decide +kernel
theorem dX2_putNumber_24 : decode cX2_putNumber 24 = .ok (.irem, 1) := by decide +kernel
theorem dX2_putNumber_25 : decode cX2_putNumber 25 = .ok (.iadd, 1) := by decide +kernel
theorem dX2_putNumber_26 : decode cX2_putNumber 26 = .ok (.i2c, 1) := by decide +kernel
theorem dX2_putNumber_27 : decode cX2_putNumber 27 = .ok (.invokevirtual 19, 3) := by decide +kernel
theorem dX2_putNumber_30 : decode cX2_putNumber 30 = .ok (.return_, 1) := by decide +kernel
theorem dX2_writeProp_0 : decode cX2_writeProp 0 = .ok (.aload_n 0, 1) := by decide +kernel
theorem dX2_writeProp_1 : decode cX2_writeProp 1 = .ok (.iconst 0, 1) := by decide +kernel
theorem dX2_writeProp_2 : decode cX2_writeProp 2 = .ok (.putfield 15, 3) := by decide +kernel
theorem dX2_writeProp_5 : decode cX2_writeProp 5 = .ok (.aload_n 0, 1) := by decide +kernel
theorem dX2_writeProp_6 : decode cX2_writeProp 6 = .ok (.aload_n 1, 1) := by decide +kernel
theorem dX2_writeProp_7 : decode cX2_writeProp 7 = .ok (.getfield 23, 3) := by decide +kernel
theorem dX2_writeProp_10 : decode cX2_writeProp 10 = .ok (.iconst 1, 1) := by decide +kernel
theorem dX2_writeProp_11 : decode cX2_writeProp 11 = .ok (.if_icmp .ne 8, 3) := by decide +kernel
theorem dX2_writeProp_14 : decode cX2_writeProp 14 = .ok (.bipush 99, 2) := by decide +kernel
theorem dX2_writeProp_16 : decode cX2_writeProp 16 = .ok (.goto 18, 3) := by decide +kernel
theorem dX2_writeProp_19 : decode cX2_writeProp 19 = .ok (.aload_n 1, 1) := by decide +kernel
theorem dX2_writeProp_20 : decode cX2_writeProp 20 = .ok (.getfield 23, 3) := by decide +kernel
theorem dX2_writeProp_23 : decode cX2_writeProp 23 = .ok (.iconst 2, 1) := by decide +kernel
theorem dX2_writeProp_24 : decode cX2_writeProp 24 = .ok (.if_icmp .ne 8, 3) := by decide +kernel
theorem dX2_writeProp_27 : decode cX2_writeProp 27 = .ok (.bipush 108, 2) := by decide +kernel
theorem dX2_writeProp_29 : decode cX2_writeProp 29 = .ok (.goto 5, 3) := by decide +kernel
theorem dX2_writeProp_32 : decode cX2_writeProp 32 = .ok (.bipush 107, 2) := by decide +kernel
theorem dX2_writeProp_34 : decode cX2_writeProp 34 = .ok (.invokevirtual 19, 3) := by decide +kernel
theorem dX2_writeProp_37 : decode cX2_writeProp 37 = .ok (.aload_n 0, 1) := by decide +kernel
theorem dX2_writeProp_38 : decode cX2_writeProp 38 = .ok (.aload_n 1, 1) := by decide +kernel
theorem dX2_writeProp_39 : decode cX2_writeProp 39 = .ok (.getfield 28, 3) := by decide +kernel
theorem dX2_writeProp_42 : decode cX2_writeProp 42 = .ok (.invokevirtual 31, 3) := by decide +kernel
theorem dX2_writeProp_45 : decode cX2_writeProp 45 = .ok (.aload_n 0, 1) := by decide +kernel
theorem dX2_writeProp_46 : decode cX2_writeProp 46 = .ok (.bipush 58, 2) := by decide +kernel
theorem dX2_writeProp_48 : decode cX2_writeProp 48 = .ok (.invokevirtual 19, 3) := by decide +kernel
theorem dX2_writeProp_51 : decode cX2_writeProp 51 = .ok (.aload_n 0, 1) := by decide +kernel
theorem dX2_writeProp_52 : decode cX2_writeProp 52 = .ok (.aload_n 1, 1) := by decide +kernel
theorem dX2_writeProp_53 : decode cX2_writeProp 53 = .ok (.getfield 35, 3) := by decide +kernel
theorem dX2_writeProp_56 : decode cX2_writeProp 56 = .ok (.invokevirtual 31, 3) := by decide +kernel
theorem dX2_writeProp_59 : decode cX2_writeProp 59 = .ok (.aload_n 1, 1) := by decide +kernel
theorem dX2_writeProp_60 : decode cX2_writeProp 60 = .ok (.getfield 23, 3) := by decide +kernel
theorem dX2_writeProp_63 : decode cX2_writeProp 63 = .ok (.iconst 1, 1) := by decide +kernel
theorem dX2_writeProp_64 : decode cX2_writeProp 64 = .ok (.if_icmp .ne 25, 3) := by decide +kernel
theorem dX2_writeProp_67 : decode cX2_writeProp 67 = .ok (.iconst 0, 1) := by decide +kernel
theorem dX2_writeProp_68 : decode cX2_writeProp 68 = .ok (.istore_n 2, 1) := by decide +kernel
theorem dX2_writeProp_69 : decode cX2_writeProp 69 = .ok (.iload_n 2, 1) := by decide +kernel
theorem dX2_writeProp_70 : decode cX2_writeProp 70 = .ok (.aload_n 1, 1) := by decide +kernel
theorem dX2_writeProp_71 : decode cX2_writeProp 71 = .ok (.getfield 38, 3) := by decide +kernel
theorem dX2_writeProp_74 : decode cX2_writeProp 74 = .ok (.if_icmp .ge 15, 3) := by decide +kernel
theorem dX2_writeProp_77 : decode cX2_writeProp 77 = .ok (.aload_n 0, 1) := by decide +kernel
theorem dX2_writeProp_78 : decode cX2_writeProp 78 = .ok (.bipush 39, 2) := by decide +kernel
theorem dX2_writeProp_80 : decode cX2_writeProp 80 = .ok (.invokevirtual 19, 3) := by decide +kernel
theorem dX2_writeProp_83 : decode cX2_writeProp 83 = .ok (.iinc 2 1, 3) := by decide +kernel
theorem dX2_writeProp_86 : decode cX2_writeProp 86 = .ok (.goto (-17), 3) := by decide +kernel
theorem dX2_writeProp_89 : decode cX2_writeProp 89 = .ok (.aload_n 1, 1) := by decide +kernel
theorem dX2_writeProp_90 : decode cX2_writeProp 90 = .ok (.getfield 23, 3) := by decide +kernel
theorem dX2_writeProp_93 : decode cX2_writeProp 93 = .ok (.iconst 2, 1) := by decide +kernel
theorem dX2_writeProp_94 : decode cX2_writeProp 94 = .ok (.if_icmp .ne 17, 3) := by decide +kernel
theorem dX2_writeProp_97 : decode cX2_writeProp 97 = .ok (.aload_n 0, 1) := by decide +kernel
theorem dX2_writeProp_98 : decode cX2_writeProp 98 = .ok (.bipush 126, 2) := by decide +kernel
theorem dX2_writeProp_100 : decode cX2_writeProp 100 = .ok (.invokevirtual 19, 3) := by decide +kernel
theorem dX2_writeProp_103 : decode cX2_writeProp 103 = .ok (.aload_n 0, 1) := by decide +kernel
theorem dX2_writeProp_104 : decode cX2_writeProp 104 = .ok (.aload_n 1, 1) := by decide +kernel
theorem dX2_writeProp_105 : decode cX2_writeProp 105 = .ok (.getfield 38, 3) := by decide +kernel
theorem dX2_writeProp_108 : decode cX2_writeProp 108 = .ok (.invokevirtual 31, 3) := by decide +kernel
theorem dX2_writeProp_111 : decode cX2_writeProp 111 = .ok (.aload_n 1, 1) := by decide +kernel
theorem dX2_writeProp_112 : decode cX2_writeProp 112 = .ok (.getfield 41, 3) := by decide +kernel
theorem dX2_writeProp_115 : decode cX2_writeProp 115 = .ok (.ifCond .le 17, 3) := by decide +kernel
theorem dX2_writeProp_118 : decode cX2_writeProp 118 = .ok (.aload_n 0, 1) := by decide +kernel
theorem dX2_writeProp_119 : decode cX2_writeProp 119 = .ok (.bipush 35, 2) := by decide +kernel
theorem dX2_writeProp_121 : decode cX2_writeProp 121 = .ok (.invokevirtual 19, 3) := by decide +kernel
theorem dX2_writeProp_124 : decode cX2_writeProp 124 = .ok (.aload_n 0, 1) := by decide +kernel
theorem dX2_writeProp_125 : decode cX2_writeProp 125 = .ok (.aload_n 1, 1) := by decide +kernel
theorem dX2_writeProp_126 : decode cX2_writeProp 126 = .ok (.getfield 41, 3) := by decide +kernel
theorem dX2_writeProp_129 : decode cX2_writeProp 129 = .ok (.invokevirtual 31, 3) := by decide +kernel
theorem dX2_writeProp_132 : decode cX2_writeProp 132 = .ok (.aload_n 1, 1) := by decide +kernel
theorem dX2_writeProp_133 : decode cX2_writeProp 133 = .ok (.getfield 44, 3) := by decide +kernel
theorem dX2_writeProp_136 : decode cX2_writeProp 136 = .ok (.ifCond .eq 9, 3) := by decide +kernel
theorem dX2_writeProp_139 : decode cX2_writeProp 139 = .ok (.aload_n 0, 1) := by decide +kernel
theorem dX2_writeProp_140 : decode cX2_writeProp 140 = .ok (.bipush 33, 2) := by decide +kernel
theorem dX2_writeProp_142 : decode cX2_writeProp 142 = .ok (.invokevirtual 19, 3) := by decide +kernel
theorem dX2_writeProp_145 : decode cX2_writeProp 145 = .ok (.return_, 1) := by decide +kernel
theorem dX2_writeProgramme_0 : decode cX2_writeProgramme 0 = .ok (.aload_n 0, 1) := by decide +kernel
theorem dX2_writeProgramme_1 : decode cX2_writeProgramme 1 = .ok (.iconst 0, 1) := by decide +kernel
theorem dX2_writeProgramme_2 : decode cX2_writeProgramme 2 = .ok (.putfield 15, 3) := by decide +kernel
theorem dX2_writeProgramme_5 : decode cX2_writeProgramme 5 = .ok (.iconst 0, 1) := by decide +kernel
theorem dX2_writeProgramme_6 : decode cX2_writeProgramme 6 = .ok (.istore_n 2, 1) := by decide +kernel
theorem dX2_writeProgramme_7 : decode cX2_writeProgramme 7 = .ok (.iload_n 2, 1) := by decide +kernel
theorem dX2_writeProgramme_8 : decode cX2_writeProgramme 8 = .ok (.aload_n 1, 1) := by decide +kernel
theorem dX2_writeProgramme_9 : decode cX2_writeProgramme 9 = .ok (.getfield 48, 3) := by decide +kernel
theorem dX2_writeProgramme_12 : decode cX2_writeProgramme 12 = .ok (.if_icmp .ge 18, 3) := by decide +kernel
theorem dX2_writeProgramme_15 : decode cX2_writeProgramme 15 = .ok (.aload_n 0, 1) := by decide +kernel
theorem dX2_writeProgramme_16 : decode cX2_writeProgramme 16 = .ok (.aload_n 1, 1) := by decide +kernel
theorem dX2_writeProgramme_17 : decode cX2_writeProgramme 17 = .ok (.iload_n 2, 1) := by decide +kernel
theorem dX2_writeProgramme_18 : decode cX2_writeProgramme 18 = .ok (.invokevirtual 53, 3) := by decide +kernel
theorem dX2_writeProgramme_21 : decode cX2_writeProgramme 21 = .ok (.invokevirtual 31, 3) := by decide +kernel
theorem dX2_writeProgramme_24 : decode cX2_writeProgramme 24 = .ok (.iinc 2 1, 3) := by decide +kernel
theorem dX2_writeProgramme_27 : decode cX2_writeProgramme 27 = .ok (.goto (-20), 3) := by decide +kernel
theorem dX2_writeProgramme_30 : decode cX2_writeProgramme 30 = .ok (.return_, 1) := by decide +kernel
