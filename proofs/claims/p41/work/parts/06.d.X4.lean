theorem dX4_init_0 : decode cX4_init 0 = .ok (.aload_n 0, 1) := by decide +kernel
theorem dX4_init_1 : decode cX4_init 1 = .ok (.invokespecial 3, 3) := by decide +kernel
theorem dX4_init_4 : decode cX4_init 4 = .ok (.aload_n 0, 1) := by decide +kernel
theorem dX4_init_5 : decode cX4_init 5 = .ok (.bipush 60, 2) := by decide +kernel
theorem dX4_init_7 : decode cX4_init 7 = .ok (.newarray .char, 2) := by decide +kernel
theorem dX4_init_9 : decode cX4_init 9 = .ok (.putfield 9, 3) := by decide +kernel
theorem dX4_init_12 : decode cX4_init 12 = .ok (.aload_n 0, 1) := by decide +kernel
theorem dX4_init_13 : decode cX4_init 13 = .ok (.iconst 0, 1) := by decide +kernel
theorem dX4_init_14 : decode cX4_init 14 = .ok (.putfield 15, 3) := by decide +kernel
theorem dX4_init_17 : decode cX4_init 17 = .ok (.aload_n 0, 1) := by decide +kernel
theorem dX4_init_18 : decode cX4_init 18 = .ok (.bipush 12, 2) := by decide +kernel
theorem dX4_init_20 : decode cX4_init 20 = .ok (.newarray .int, 2) := by decide +kernel
theorem dX4_init_22 : decode cX4_init 22 = .ok (.putfield 19, 3) := by decide +kernel
theorem dX4_init_25 : decode cX4_init 25 = .ok (.aload_n 0, 1) := by decide +kernel
theorem dX4_init_26 : decode cX4_init 26 = .ok (.bipush 12, 2) := by decide +kernel
theorem dX4_init_28 : decode cX4_init 28 = .ok (.newarray .int, 2) := by decide +kernel
theorem dX4_init_30 : decode cX4_init 30 = .ok (.putfield 23, 3) := by decide +kernel
theorem dX4_init_33 : decode cX4_init 33 = .ok (.aload_n 0, 1) := by decide +kernel
theorem dX4_init_34 : decode cX4_init 34 = .ok (.bipush 12, 2) := by decide +kernel
theorem dX4_init_36 : decode cX4_init 36 = .ok (.newarray .int, 2) := by decide +kernel
theorem dX4_init_38 : decode cX4_init 38 = .ok (.putfield 26, 3) := by decide +kernel
theorem dX4_init_41 : decode cX4_init 41 = .ok (.aload_n 0, 1) := by decide +kernel
theorem dX4_init_42 : decode cX4_init 42 = .ok (.iconst 0, 1) := by decide +kernel
theorem dX4_init_43 : decode cX4_init 43 = .ok (.putfield 29, 3) := by decide +kernel
theorem dX4_init_46 : decode cX4_init 46 = .ok (.aload_n 0, 1) := by decide +kernel
theorem dX4_init_47 : decode cX4_init 47 = .ok (.iconst 0, 1) := by decide +kernel
theorem dX4_init_48 : decode cX4_init 48 = .ok (.putfield 32, 3) := by decide +kernel
theorem dX4_init_51 : decode cX4_init 51 = .ok (.return_, 1) := by decide +kernel
theorem dX4_put_0 : decode cX4_put 0 = .ok (.aload_n 0, 1) := by decide +kernel
theorem dX4_put_1 : decode cX4_put 1 = .ok (.getfield 15, 3) := by decide +kernel
theorem dX4_put_4 : decode cX4_put 4 = .ok (.ifCond .lt 35, 3) := by decide +kernel
theorem dX4_put_7 : decode cX4_put 7 = .ok (.aload_n 0, 1) := by decide +kernel
theorem dX4_put_8 : decode cX4_put 8 = .ok (.getfield 15, 3) := by decide +kernel
theorem dX4_put_11 : decode cX4_put 11 = .ok (.aload_n 0, 1) := by decide +kernel
theorem dX4_put_12 : decode cX4_put 12 = .ok (.getfield 9, 3) := by decide +kernel
theorem dX4_put_15 : decode cX4_put 15 = .ok (.arraylength, 1) := by decide +kernel
theorem dX4_put_16 : decode cX4_put 16 = .ok (.if_icmp .ge 23, 3) := by decide +kernel
theorem dX4_put_19 : decode cX4_put 19 = .ok (.aload_n 0, 1) := by decide +kernel
theorem dX4_put_20 : decode cX4_put 20 = .ok (.getfield 9, 3) := by decide +kernel
theorem dX4_put_23 : decode cX4_put 23 = .ok (.aload_n 0, 1) := by decide +kernel
theorem dX4_put_24 : decode cX4_put 24 = .ok (.getfield 15, 3) := by decide +kernel
theorem dX4_put_27 : decode cX4_put 27 = .ok (.iload_n 1, 1) := by decide +kernel
theorem dX4_put_28 : decode cX4_put 28 = .ok (.castore, 1) := by decide +kernel
theorem dX4_put_29 : decode cX4_put 29 = .ok (.aload_n 0, 1) := by decide +kernel
theorem dX4_put_30 : decode cX4_put 30 = .ok (.dup, 1) := by decide +kernel
theorem dX4_put_31 : decode cX4_put 31 = .ok (.getfield 15, 3) := by decide +kernel
theorem dX4_put_34 : decode cX4_put 34 = .ok (.iconst 1, 1) := by decide +kernel
theorem dX4_put_35 : decode cX4_put 35 = .ok (.iadd, 1) := by decide +kernel
theorem dX4_put_36 : decode cX4_put 36 = .ok (.putfield 15, 3) := by decide +kernel
theorem dX4_put_39 : decode cX4_put 39 = .ok (.return_, 1) := by decide +kernel
theorem dX4_read_0 : decode cX4_read 0 = .ok (.aload_n 0, 1) := by decide +kernel
theorem dX4_read_1 : decode cX4_read 1 = .ok (.iconst 0, 1) := by decide +kernel
theorem dX4_read_2 : decode cX4_read 2 = .ok (.putfield 32, 3) := by decide +kernel
theorem dX4_read_5 : decode cX4_read 5 = .ok (.aload_n 0, 1) := by decide +kernel
theorem dX4_read_6 : decode cX4_read 6 = .ok (.iconst 0, 1) := by decide +kernel
theorem dX4_read_7 : decode cX4_read 7 = .ok (.putfield 29, 3) := by decide +kernel
theorem dX4_read_10 : decode cX4_read 10 = .ok (.iconst 0, 1) := by decide +kernel
theorem dX4_read_11 : decode cX4_read 11 = .ok (.istore_n 1, 1) := by decide +kernel
theorem dX4_read_12 : decode cX4_read 12 = .ok (.iload_n 1, 1) := by decide +kernel
theorem dX4_read_13 : decode cX4_read 13 = .ok (.bipush 12, 2) := by decide +kernel
theorem dX4_read_15 : decode cX4_read 15 = .ok (.if_icmp .ge 59, 3) := by decide +kernel
theorem dX4_read_18 : decode cX4_read 18 = .ok (.aload_n 0, 1) := by decide +kernel
theorem dX4_read_19 : decode cX4_read 19 = .ok (.iload_n 1, 1) := by decide +kernel
theorem dX4_read_20 : decode cX4_read 20 = .ok (.invokevirtual 35, 3) := by decide +kernel
theorem dX4_read_23 : decode cX4_read 23 = .ok (.ifCond .ne 8, 3) := by decide +kernel
theorem dX4_read_26 : decode cX4_read 26 = .ok (.aload_n 0, 1) := by decide +kernel
theorem dX4_read_27 : decode cX4_read 27 = .ok (.getfield 32, 3) := by decide +kernel
theorem dX4_read_30 : decode cX4_read 30 = .ok (.ireturn, 1) := by decide +kernel
theorem dX4_read_31 : decode cX4_read 31 = .ok (.aload_n 0, 1) := by decide +kernel
theorem dX4_read_32 : decode cX4_read 32 = .ok (.dup, 1) := by decide +kernel
theorem dX4_read_33 : decode cX4_read 33 = .ok (.getfield 29, 3) := by decide +kernel
theorem dX4_read_36 : decode cX4_read 36 = .ok (.iconst 1, 1) := by decide +kernel
theorem dX4_read_37 : decode cX4_read 37 = .ok (.iadd, 1) := by decide +kernel
theorem dX4_read_38 : decode cX4_read 38 = .ok (.putfield 29, 3) := by decide +kernel
theorem dX4_read_41 : decode cX4_read 41 = .ok (.aload_n 0, 1) := by decide +kernel
theorem dX4_read_42 : decode cX4_read 42 = .ok (.getfield 32, 3) := by decide +kernel
theorem dX4_read_45 : decode cX4_read 45 = .ok (.aload_n 0, 1) := by decide +kernel
theorem dX4_read_46 : decode cX4_read 46 = .ok (.getfield 15, 3) := by decide +kernel
theorem dX4_read_49 : decode cX4_read 49 = .ok (.if_icmp .lt 5, 3) := by decide +kernel
theorem dX4_read_52 : decode cX4_read 52 = .ok (.iconst (-1), 1) := by decide +kernel
theorem dX4_read_53 : decode cX4_read 53 = .ok (.ireturn, 1) := by decide +kernel
theorem dX4_read_54 : decode cX4_read 54 = .ok (.aload_n 0, 1) := by decide +kernel
theorem dX4_read_55 : decode cX4_read 55 = .ok (.bipush 59, 2) := by decide +kernel
theorem dX4_read_57 : decode cX4_read 57 = .ok (.invokevirtual 39, 3) := by decide +kernel
theorem dX4_read_60 : decode cX4_read 60 = .ok (.ifCond .ne 8, 3) := by decide +kernel
theorem dX4_read_63 : decode cX4_read 63 = .ok (.aload_n 0, 1) := by decide +kernel
theorem dX4_read_64 : decode cX4_read 64 = .ok (.getfield 32, 3) := by decide +kernel
theorem dX4_read_67 : decode cX4_read 67 = .ok (.ireturn, 1) := by decide +kernel
theorem dX4_read_68 : decode cX4_read 68 = .ok (.iinc 1 1, 3) := by decide +kernel
theorem dX4_read_71 : decode cX4_read 71 = .ok (.goto (-59), 3) := by decide +kernel
theorem dX4_read_74 : decode cX4_read 74 = .ok (.aload_n 0, 1) := by decide +kernel
theorem dX4_read_75 : decode cX4_read 75 = .ok (.getfield 32, 3) := by decide +kernel
theorem dX4_read_78 : decode cX4_read 78 = .ok (.ireturn, 1) := by decide +kernel
theorem dX4_readOrder_0 : decode cX4_readOrder 0 = .ok (.aload_n 0, 1) := by decide +kernel
theorem dX4_readOrder_1 : decode cX4_readOrder 1 = .ok (.invokevirtual 43, 3) := by decide +kernel
theorem dX4_readOrder_4 : decode cX4_readOrder 4 = .ok (.istore_n 2, 1) := by decide +kernel
theorem dX4_readOrder_5 : decode cX4_readOrder 5 = .ok (.iload_n 2, 1) := by decide +kernel
theorem dX4_readOrder_6 : decode cX4_readOrder 6 = .ok (.ifCond .eq 13, 3) := by decide +kernel
theorem dX4_readOrder_9 : decode cX4_readOrder 9 = .ok (.iload_n 1, 1) := by decide +kernel
theorem dX4_readOrder_10 : decode cX4_readOrder 10 = .ok (.ifCond .lt 9, 3) := by decide +kernel
theorem dX4_readOrder_13 : decode cX4_readOrder 13 = .ok (.iload_n 1, 1) := by decide +kernel
theorem dX4_readOrder_14 : decode cX4_readOrder 14 = .ok (.bipush 12, 2) := by decide +kernel
theorem dX4_readOrder_16 : decode cX4_readOrder 16 = .ok (.if_icmp .lt 5, 3) := by decide +kernel
theorem dX4_readOrder_19 : decode cX4_readOrder 19 = .ok (.iconst 0, 1) := by decide +kernel
theorem dX4_readOrder_20 : decode cX4_readOrder 20 = .ok (.ireturn, 1) := by decide +kernel
theorem dX4_readOrder_21 : decode cX4_readOrder 21 = .ok (.aload_n 0, 1) := by decide +kernel
theorem dX4_readOrder_22 : decode cX4_readOrder 22 = .ok (.getfield 19, 3) := by decide +kernel
theorem dX4_readOrder_25 : decode cX4_readOrder 25 = .ok (.iload_n 1, 1) := by decide +kernel
theorem dX4_readOrder_26 : decode cX4_readOrder 26 = .ok (.iload_n 2, 1) := by decide +kernel
theorem dX4_readOrder_27 : decode cX4_readOrder 27 = .ok (.iastore, 1) := by decide +kernel
theorem dX4_readOrder_28 : decode cX4_readOrder 28 = .ok (.aload_n 0, 1) := by decide +kernel
theorem dX4_readOrder_29 : decode cX4_readOrder 29 = .ok (.getfield 23, 3) := by decide +kernel
theorem dX4_readOrder_32 : decode cX4_readOrder 32 = .ok (.iload_n 1, 1) := by decide +kernel
theorem dX4_readOrder_33 : decode cX4_readOrder 33 = .ok (.iconst 0, 1) := by decide +kernel
theorem dX4_readOrder_34 : decode cX4_readOrder 34 = .ok (.iastore, 1) := by decide +kernel
theorem dX4_readOrder_35 : decode cX4_readOrder 35 = .ok (.aload_n 0, 1) := by decide +kernel
theorem dX4_readOrder_36 : decode cX4_readOrder 36 = .ok (.getfield 26, 3) := by decide +kernel
theorem dX4_readOrder_39 : decode cX4_readOrder 39 = .ok (.iload_n 1, 1) := by decide +kernel
theorem dX4_readOrder_40 : decode cX4_readOrder 40 = .ok (.iconst 0, 1) := by decide +kernel
theorem dX4_readOrder_41 : decode cX4_readOrder 41 = .ok (.iastore, 1) := by decide +kernel
theorem dX4_readOrder_42 : decode cX4_readOrder 42 = .ok (.iload_n 2, 1) := by decide +kernel
theorem dX4_readOrder_43 : decode cX4_readOrder 43 = .ok (.bipush 7, 2) := by decide +kernel
theorem dX4_readOrder_45 : decode cX4_readOrder 45 = .ok (.if_icmp .eq 15, 3) := by decide +kernel
theorem dX4_readOrder_48 : decode cX4_readOrder 48 = .ok (.iload_n 2, 1) := by decide +kernel
theorem dX4_readOrder_49 : decode cX4_readOrder 49 = .ok (.bipush 9, 2) := by decide +kernel
theorem dX4_readOrder_51 : decode cX4_readOrder 51 = .ok (.if_icmp .eq 9, 3) := by decide +kernel
theorem dX4_readOrder_54 : decode cX4_readOrder 54 = .ok (.iload_n 2, 1) := by decide +kernel
theorem dX4_readOrder_55 : decode cX4_readOrder 55 = .ok (.bipush 10, 2) := by decide +kernel
theorem dX4_readOrder_57 : decode cX4_readOrder 57 = .ok (.if_icmp .ne 5, 3) := by decide +kernel
theorem dX4_readOrder_60 : decode cX4_readOrder 60 = .ok (.iconst 1, 1) := by decide +kernel
theorem dX4_readOrder_61 : decode cX4_readOrder 61 = .ok (.ireturn, 1) := by decide +kernel
theorem dX4_readOrder_62 : decode cX4_readOrder 62 = .ok (.iload_n 2, 1) := by decide +kernel
theorem dX4_readOrder_63 : decode cX4_readOrder 63 = .ok (.iconst 4, 1) := by decide +kernel
theorem dX4_readOrder_64 : decode cX4_readOrder 64 = .ok (.if_icmp .eq 8, 3) := by decide +kernel
theorem dX4_readOrder_67 : decode cX4_readOrder 67 = .ok (.iload_n 2, 1) := by decide +kernel
theorem dX4_readOrder_68 : decode cX4_readOrder 68 = .ok (.iconst 5, 1) := by decide +kernel
theorem dX4_readOrder_69 : decode cX4_readOrder 69 = .ok (.if_icmp .ne 7, 3) := by decide +kernel
theorem dX4_readOrder_72 : decode cX4_readOrder 72 = .ok (.iconst 1, 1) := by decide +kernel
theorem dX4_readOrder_73 : decode cX4_readOrder 73 = .ok (.goto 4, 3) := by decide +kernel
theorem dX4_readOrder_76 : decode cX4_readOrder 76 = .ok (.iconst 0, 1) := by decide +kernel
theorem dX4_readOrder_77 : decode cX4_readOrder 77 = .ok (.istore_n 3, 1) := by decide +kernel
theorem dX4_readOrder_78 : decode cX4_readOrder 78 = .ok (.aload_n 0, 1) := by decide +kernel
theorem dX4_readOrder_79 : decode cX4_readOrder 79 = .ok (.getfield 23, 3) := by decide +kernel
theorem dX4_readOrder_82 : decode cX4_readOrder 82 = .ok (.iload_n 1, 1) := by decide +kernel
theorem dX4_readOrder_83 : decode cX4_readOrder 83 = .ok (.aload_n 0, 1) := by decide +kernel
theorem dX4_readOrder_84 : decode cX4_readOrder 84 = .ok (.iload_n 3, 1) := by decide +kernel
theorem dX4_readOrder_85 : decode cX4_readOrder 85 = .ok (.ifCond .eq 7, 3) := by decide +kernel
theorem dX4_readOrder_88 : decode cX4_readOrder 88 = .ok (.iconst 2, 1) := by decide +kernel
theorem dX4_readOrder_89 : decode cX4_readOrder 89 = .ok (.goto 4, 3) := by decide +kernel
theorem dX4_readOrder_92 : decode cX4_readOrder 92 = .ok (.iconst 1, 1) := by decide +kernel
theorem dX4_readOrder_93 : decode cX4_readOrder 93 = .ok (.invokevirtual 47, 3) := by decide +kernel
theorem dX4_readOrder_96 : decode cX4_readOrder 96 = .ok (.iastore, 1) := by decide +kernel
theorem dX4_readOrder_97 : decode cX4_readOrder 97 = .ok (.aload_n 0, 1) := by decide +kernel
theorem dX4_readOrder_98 : decode cX4_readOrder 98 = .ok (.getfield 23, 3) := by decide +kernel
theorem dX4_readOrder_101 : decode cX4_readOrder 101 = .ok (.iload_n 1, 1) := by decide +kernel
theorem dX4_readOrder_102 : decode cX4_readOrder 102 = .ok (.iaload, 1) := by decide +kernel
theorem dX4_readOrder_103 : decode cX4_readOrder 103 = .ok (.ifCond .ge 5, 3) := by decide +kernel
theorem dX4_readOrder_106 : decode cX4_readOrder 106 = .ok (.iconst 0, 1) := by decide +kernel
theorem dX4_readOrder_107 : decode cX4_readOrder 107 = .ok (.ireturn, 1) := by decide +kernel
theorem dX4_readOrder_108 : decode cX4_readOrder 108 = .ok (.iload_n 2, 1) := by decide +kernel
theorem dX4_readOrder_109 : decode cX4_readOrder 109 = .ok (.iconst 4, 1) := by decide +kernel
theorem dX4_readOrder_110 : decode cX4_readOrder 110 = .ok (.if_icmp .eq 15, 3) := by decide +kernel
theorem dX4_readOrder_113 : decode cX4_readOrder 113 = .ok (.iload_n 2, 1) := by decide +kernel
theorem dX4_readOrder_114 : decode cX4_readOrder 114 = .ok (.bipush 6, 2) := by decide +kernel
theorem dX4_readOrder_116 : decode cX4_readOrder 116 = .ok (.if_icmp .eq 9, 3) := by decide +kernel
theorem dX4_readOrder_119 : decode cX4_readOrder 119 = .ok (.iload_n 2, 1) := by decide +kernel
theorem dX4_readOrder_120 : decode cX4_readOrder 120 = .ok (.bipush 8, 2) := by decide +kernel
theorem dX4_readOrder_122 : decode cX4_readOrder 122 = .ok (.if_icmp .ne 5, 3) := by decide +kernel
theorem dX4_readOrder_125 : decode cX4_readOrder 125 = .ok (.iconst 1, 1) := by decide +kernel
theorem dX4_readOrder_126 : decode cX4_readOrder 126 = .ok (.ireturn, 1) := by decide +kernel
theorem dX4_readOrder_127 : decode cX4_readOrder 127 = .ok (.aload_n 0, 1) := by decide +kernel
theorem dX4_readOrder_128 : decode cX4_readOrder 128 = .ok (.getfield 26, 3) := by decide +kernel
theorem dX4_readOrder_131 : decode cX4_readOrder 131 = .ok (.iload_n 1, 1) := by decide +kernel
theorem dX4_readOrder_132 : decode cX4_readOrder 132 = .ok (.aload_n 0, 1) := by decide +kernel
theorem dX4_readOrder_133 : decode cX4_readOrder 133 = .ok (.iconst 1, 1) := by decide +kernel
theorem dX4_readOrder_134 : decode cX4_readOrder 134 = .ok (.invokevirtual 47, 3) := by decide +kernel
theorem dX4_readOrder_137 : decode cX4_readOrder 137 = .ok (.iastore, 1) := by decide +kernel
theorem dX4_readOrder_138 : decode cX4_readOrder 138 = .ok (.aload_n 0, 1) := by decide +kernel
theorem dX4_readOrder_139 : decode cX4_readOrder 139 = .ok (.getfield 26, 3) := by decide +kernel
theorem dX4_readOrder_142 : decode cX4_readOrder 142 = .ok (.iload_n 1, 1) := by decide +kernel
theorem dX4_readOrder_143 : decode cX4_readOrder 143 = .ok (.iaload, 1) := by decide +kernel
theorem dX4_readOrder_144 : decode cX4_readOrder 144 = .ok (.ifCond .lt 7, 3) := by decide +kernel
theorem dX4_readOrder_147 : decode cX4_readOrder 147 = .ok (.iconst 1, 1) := by decide +kernel
theorem dX4_readOrder_148 : decode cX4_readOrder 148 = .ok (.goto 4, 3) := by decide +kernel
theorem dX4_readOrder_151 : decode cX4_readOrder 151 = .ok (.iconst 0, 1) := by decide +kernel
theorem dX4_readOrder_152 : decode cX4_readOrder 152 = .ok (.ireturn, 1) := by decide +kernel
theorem dX4_readWord_0 : decode cX4_readWord 0 = .ok (.iconst 0, 1) := by decide +kernel
theorem dX4_readWord_1 : decode cX4_readWord 1 = .ok (.istore_n 1, 1) := by decide +kernel
theorem dX4_readWord_2 : decode cX4_readWord 2 = .ok (.iconst 1, 1) := by decide +kernel
theorem dX4_readWord_3 : decode cX4_readWord 3 = .ok (.istore_n 2, 1) := by decide +kernel
theorem dX4_readWord_4 : decode cX4_readWord 4 = .ok (.iload_n 2, 1) := by decide +kernel
theorem dX4_readWord_5 : decode cX4_readWord 5 = .ok (.bipush 10, 2) := by decide +kernel
theorem dX4_readWord_7 : decode cX4_readWord 7 = .ok (.if_icmp .gt 52, 3) := by decide +kernel
theorem dX4_readWord_10 : decode cX4_readWord 10 = .ok (.iload_n 2, 1) := by decide +kernel
theorem dX4_readWord_11 : decode cX4_readWord 11 = .ok (.invokestatic 51, 3) := by decide +kernel
theorem dX4_readWord_14 : decode cX4_readWord 14 = .ok (.astore_n 3, 1) := by decide +kernel
theorem dX4_readWord_15 : decode cX4_readWord 15 = .ok (.aload_n 0, 1) := by decide +kernel
theorem dX4_readWord_16 : decode cX4_readWord 16 = .ok (.aload_n 3, 1) := by decide +kernel
theorem dX4_readWord_17 : decode cX4_readWord 17 = .ok (.invokevirtual 55, 3) := by decide +kernel
theorem dX4_readWord_20 : decode cX4_readWord 20 = .ok (.istore 4, 2) := by decide +kernel
theorem dX4_readWord_22 : decode cX4_readWord 22 = .ok (.iload 4, 2) := by decide +kernel
theorem dX4_readWord_24 : decode cX4_readWord 24 = .ok (.aload_n 3, 1) := by decide +kernel
theorem dX4_readWord_25 : decode cX4_readWord 25 = .ok (.invokevirtual 59, 3) := by decide +kernel
theorem dX4_readWord_28 : decode cX4_readWord 28 = .ok (.if_icmp .ne 16, 3) := by decide +kernel
theorem dX4_readWord_31 : decode cX4_readWord 31 = .ok (.aload_n 0, 1) := by decide +kernel
theorem dX4_readWord_32 : decode cX4_readWord 32 = .ok (.dup, 1) := by decide +kernel
theorem dX4_readWord_33 : decode cX4_readWord 33 = .ok (.getfield 32, 3) := by decide +kernel
theorem dX4_readWord_36 : decode cX4_readWord 36 = .ok (.iload 4, 2) := by decide +kernel
theorem dX4_readWord_38 : decode cX4_readWord 38 = .ok (.iadd, 1) := by decide +kernel
theorem dX4_readWord_39 : decode cX4_readWord 39 = .ok (.putfield 32, 3) := by decide +kernel
theorem dX4_readWord_42 : decode cX4_readWord 42 = .ok (.iload_n 2, 1) := by decide +kernel
theorem dX4_readWord_43 : decode cX4_readWord 43 = .ok (.ireturn, 1) := by decide +kernel
theorem dX4_readWord_44 : decode cX4_readWord 44 = .ok (.iload 4, 2) := by decide +kernel
theorem dX4_readWord_46 : decode cX4_readWord 46 = .ok (.iload_n 1, 1) := by decide +kernel
theorem dX4_readWord_47 : decode cX4_readWord 47 = .ok (.if_icmp .le 6, 3) := by decide +kernel
theorem dX4_readWord_50 : decode cX4_readWord 50 = .ok (.iload 4, 2) := by decide +kernel
theorem dX4_readWord_52 : decode cX4_readWord 52 = .ok (.istore_n 1, 1) := by decide +kernel
theorem dX4_readWord_53 : decode cX4_readWord 53 = .ok (.iinc 2 1, 3) := by decide +kernel
theorem dX4_readWord_56 : decode cX4_readWord 56 = .ok (.goto (-52), 3) := by decide +kernel
theorem dX4_readWord_59 : decode cX4_readWord 59 = .ok (.aload_n 0, 1) := by decide +kernel
theorem dX4_readWord_60 : decode cX4_readWord 60 = .ok (.dup, 1) := by decide +kernel
theorem dX4_readWord_61 : decode cX4_readWord 61 = .ok (.getfield 32, 3) := by decide +kernel
theorem dX4_readWord_64 : decode cX4_readWord 64 = .ok (.iload_n 1, 1) := by decide +kernel
theorem dX4_readWord_65 : decode cX4_readWord 65 = .ok (.iadd, 1) := by decide +kernel
theorem dX4_readWord_66 : decode cX4_readWord 66 = .ok (.putfield 32, 3) := by decide +kernel
theorem dX4_readWord_69 : decode cX4_readWord 69 = .ok (.iconst 0, 1) := by decide +kernel
theorem dX4_readWord_70 : decode cX4_readWord 70 = .ok (.ireturn, 1) := by decide +kernel
theorem dX4_countAlike_0 : decode cX4_countAlike 0 = .ok (.iconst 0, 1) := by decide +kernel
theorem dX4_countAlike_1 : decode cX4_countAlike 1 = .ok (.istore_n 2, 1) := by decide +kernel
theorem dX4_countAlike_2 : decode cX4_countAlike 2 = .ok (.iload_n 2, 1) := by decide +kernel
theorem dX4_countAlike_3 : decode cX4_countAlike 3 = .ok (.aload_n 1, 1) := by decide +kernel
theorem dX4_countAlike_4 : decode cX4_countAlike 4 = .ok (.invokevirtual 59, 3) := by decide +kernel
theorem dX4_countAlike_7 : decode cX4_countAlike 7 = .ok (.if_icmp .ge 29, 3) := by decide +kernel
theorem dX4_countAlike_10 : decode cX4_countAlike 10 = .ok (.aload_n 0, 1) := by decide +kernel
theorem dX4_countAlike_11 : decode cX4_countAlike 11 = .ok (.aload_n 0, 1) := by decide +kernel
theorem dX4_countAlike_12 : decode cX4_countAlike 12 = .ok (.getfield 32, 3) := by decide +kernel
theorem dX4_countAlike_15 : decode cX4_countAlike 15 = .ok (.iload_n 2, 1) := by decide +kernel
theorem dX4_countAlike_16 : decode cX4_countAlike 16 = .ok (.iadd, 1) := by decide +kernel
theorem dX4_countAlike_17 : decode cX4_countAlike 17 = .ok (.aload_n 1, 1) := by decide +kernel
theorem dX4_countAlike_18 : decode cX4_countAlike 18 = .ok (.iload_n 2, 1) := by decide +kernel
theorem dX4_countAlike_19 : decode cX4_countAlike 19 = .ok (.invokevirtual 63, 3) := by decide +kernel
theorem dX4_countAlike_22 : decode cX4_countAlike 22 = .ok (.invokevirtual 67, 3) := by decide +kernel
theorem dX4_countAlike_25 : decode cX4_countAlike 25 = .ok (.ifCond .ne 5, 3) := by decide +kernel
theorem dX4_countAlike_28 : decode cX4_countAlike 28 = .ok (.iload_n 2, 1) := by decide +kernel
theorem dX4_countAlike_29 : decode cX4_countAlike 29 = .ok (.ireturn, 1) := by decide +kernel
theorem dX4_countAlike_30 : decode cX4_countAlike 30 = .ok (.iinc 2 1, 3) := by decide +kernel
theorem dX4_countAlike_33 : decode cX4_countAlike 33 = .ok (.goto (-31), 3) := by decide +kernel
theorem dX4_countAlike_36 : decode cX4_countAlike 36 = .ok (.aload_n 1, 1) := by decide +kernel
theorem dX4_countAlike_37 : decode cX4_countAlike 37 = .ok (.invokevirtual 59, 3) := by decide +kernel
theorem dX4_countAlike_40 : decode cX4_countAlike 40 = .ok (.ireturn, 1) := by decide +kernel
theorem dX4_readNumber_0 : decode cX4_readNumber 0 = .ok (.aload_n 0, 1) := by decide +kernel
theorem dX4_readNumber_1 : decode cX4_readNumber 1 = .ok (.bipush 32, 2) := by decide +kernel
theorem dX4_readNumber_3 : decode cX4_readNumber 3 = .ok (.invokevirtual 39, 3) := by decide +kernel
theorem dX4_readNumber_6 : decode cX4_readNumber 6 = .ok (.ifCond .ne 5, 3) := by decide +kernel
theorem dX4_readNumber_9 : decode cX4_readNumber 9 = .ok (.iconst (-1), 1) := by decide +kernel
theorem dX4_readNumber_10 : decode cX4_readNumber 10 = .ok (.ireturn, 1) := by decide +kernel
theorem dX4_readNumber_11 : decode cX4_readNumber 11 = .ok (.aload_n 0, 1) := by decide +kernel
theorem dX4_readNumber_12 : decode cX4_readNumber 12 = .ok (.invokevirtual 71, 3) := by decide +kernel
theorem dX4_readNumber_15 : decode cX4_readNumber 15 = .ok (.istore_n 2, 1) := by decide +kernel
theorem dX4_readNumber_16 : decode cX4_readNumber 16 = .ok (.iload_n 2, 1) := by decide +kernel
theorem dX4_readNumber_17 : decode cX4_readNumber 17 = .ok (.ifCond .lt 28, 3) := by decide +kernel
theorem dX4_readNumber_20 : decode cX4_readNumber 20 = .ok (.iload_n 1, 1) := by decide +kernel
theorem dX4_readNumber_21 : decode cX4_readNumber 21 = .ok (.iconst 1, 1) := by decide +kernel
theorem dX4_readNumber_22 : decode cX4_readNumber 22 = .ok (.if_icmp .le 23, 3) := by decide +kernel
theorem dX4_readNumber_25 : decode cX4_readNumber 25 = .ok (.aload_n 0, 1) := by decide +kernel
theorem dX4_readNumber_26 : decode cX4_readNumber 26 = .ok (.invokevirtual 71, 3) := by decide +kernel
theorem dX4_readNumber_29 : decode cX4_readNumber 29 = .ok (.istore_n 3, 1) := by decide +kernel
theorem dX4_readNumber_30 : decode cX4_readNumber 30 = .ok (.iload_n 3, 1) := by decide +kernel
theorem dX4_readNumber_31 : decode cX4_readNumber 31 = .ok (.ifCond .lt 12, 3) := by decide +kernel
theorem dX4_readNumber_34 : decode cX4_readNumber 34 = .ok (.iload_n 2, 1) := by decide +kernel
theorem dX4_readNumber_35 : decode cX4_readNumber 35 = .ok (.bipush 10, 2) := by decide +kernel
theorem dX4_readNumber_37 : decode cX4_readNumber 37 = .ok (.imul, 1) := by decide +kernel
theorem dX4_readNumber_38 : decode cX4_readNumber 38 = .ok (.iload_n 3, 1) := by decide +kernel
theorem dX4_readNumber_39 : decode cX4_readNumber 39 = .ok (.iadd, 1) := by decide +kernel
theorem dX4_readNumber_40 : decode cX4_readNumber 40 = .ok (.goto 4, 3) := by decide +kernel
theorem dX4_readNumber_43 : decode cX4_readNumber 43 = .ok (.iload_n 2, 1) := by decide +kernel
theorem dX4_readNumber_44 : decode cX4_readNumber 44 = .ok (.ireturn, 1) := by decide +kernel
theorem dX4_readNumber_45 : decode cX4_readNumber 45 = .ok (.iload_n 2, 1) := by decide +kernel
theorem dX4_readNumber_46 : decode cX4_readNumber 46 = .ok (.ireturn, 1) := by decide +kernel
theorem dX4_readDigit_0 : decode cX4_readDigit 0 = .ok (.aload_n 0, 1) := by decide +kernel
theorem dX4_readDigit_1 : decode cX4_readDigit 1 = .ok (.getfield 32, 3) := by decide +kernel
theorem dX4_readDigit_4 : decode cX4_readDigit 4 = .ok (.ifCond .lt 26, 3) := by decide +kernel
theorem dX4_readDigit_7 : decode cX4_readDigit 7 = .ok (.aload_n 0, 1) := by decide +kernel
theorem dX4_readDigit_8 : decode cX4_readDigit 8 = .ok (.getfield 32, 3) := by decide +kernel
theorem dX4_readDigit_11 : decode cX4_readDigit 11 = .ok (.aload_n 0, 1) := by decide +kernel
theorem dX4_readDigit_12 : decode cX4_readDigit 12 = .ok (.getfield 15, 3) := by decide +kernel
theorem dX4_readDigit_15 : decode cX4_readDigit 15 = .ok (.if_icmp .ge 15, 3) := by decide +kernel
theorem dX4_readDigit_18 : decode cX4_readDigit 18 = .ok (.aload_n 0, 1) := by decide +kernel
theorem dX4_readDigit_19 : decode cX4_readDigit 19 = .ok (.getfield 32, 3) := by decide +kernel
theorem dX4_readDigit_22 : decode cX4_readDigit 22 = .ok (.aload_n 0, 1) := by decide +kernel
theorem dX4_readDigit_23 : decode cX4_readDigit 23 = .ok (.getfield 9, 3) := by decide +kernel
theorem dX4_readDigit_26 : decode cX4_readDigit 26 = .ok (.arraylength, 1) := by decide +kernel
theorem dX4_readDigit_27 : decode cX4_readDigit 27 = .ok (.if_icmp .lt 5, 3) := by decide +kernel
theorem dX4_readDigit_30 : decode cX4_readDigit 30 = .ok (.iconst (-1), 1) := by decide +kernel
theorem dX4_readDigit_31 : decode cX4_readDigit 31 = .ok (.ireturn, 1) := by decide +kernel
theorem dX4_readDigit_32 : decode cX4_readDigit 32 = .ok (.aload_n 0, 1) := by decide +kernel
theorem dX4_readDigit_33 : decode cX4_readDigit 33 = .ok (.getfield 9, 3) := by decide +kernel
theorem dX4_readDigit_36 : decode cX4_readDigit 36 = .ok (.aload_n 0, 1) := by decide +kernel
theorem dX4_readDigit_37 : decode cX4_readDigit 37 = .ok (.getfield 32, 3) := by decide +kernel
theorem dX4_readDigit_40 : decode cX4_readDigit 40 = .ok (.caload, 1) := by decide +kernel
theorem dX4_readDigit_41 : decode cX4_readDigit 41 = .ok (.istore_n 1, 1) := by decide +kernel
theorem dX4_readDigit_42 : decode cX4_readDigit 42 = .ok (.iload_n 1, 1) := by decide +kernel
theorem dX4_readDigit_43 : decode cX4_readDigit 43 = .ok (.bipush 48, 2) := by decide +kernel
theorem dX4_readDigit_45 : decode cX4_readDigit 45 = .ok (.if_icmp .lt 9, 3) := by decide +kernel
theorem dX4_readDigit_48 : decode cX4_readDigit 48 = .ok (.iload_n 1, 1) := by decide +kernel
theorem dX4_readDigit_49 : decode cX4_readDigit 49 = .ok (.bipush 57, 2) := by decide +kernel
theorem dX4_readDigit_51 : decode cX4_readDigit 51 = .ok (.if_icmp .le 5, 3) := by decide +kernel
theorem dX4_readDigit_54 : decode cX4_readDigit 54 = .ok (.iconst (-1), 1) := by decide +kernel
theorem dX4_readDigit_55 : decode cX4_readDigit 55 = .ok (.ireturn, 1) := by decide +kernel
theorem dX4_readDigit_56 : decode cX4_readDigit 56 = .ok (.aload_n 0, 1) := by decide +kernel
theorem dX4_readDigit_57 : decode cX4_readDigit 57 = .ok (.dup, 1) := by decide +kernel
theorem dX4_readDigit_58 : decode cX4_readDigit 58 = .ok (.getfield 32, 3) := by decide +kernel
theorem dX4_readDigit_61 : decode cX4_readDigit 61 = .ok (.iconst 1, 1) := by decide +kernel
theorem dX4_readDigit_62 : decode cX4_readDigit 62 = .ok (.iadd, 1) := by decide +kernel
theorem dX4_readDigit_63 : decode cX4_readDigit 63 = .ok (.putfield 32, 3) := by decide +kernel
theorem dX4_readDigit_66 : decode cX4_readDigit 66 = .ok (.iload_n 1, 1) := by decide +kernel
theorem dX4_readDigit_67 : decode cX4_readDigit 67 = .ok (.bipush 48, 2) := by decide +kernel
theorem dX4_readDigit_69 : decode cX4_readDigit 69 = .ok (.isub, 1) := by decide +kernel
theorem dX4_readDigit_70 : decode cX4_readDigit 70 = .ok (.ireturn, 1) := by decide +kernel
theorem dX4_readSign_0 : decode cX4_readSign 0 = .ok (.aload_n 0, 1) := by decide +kernel
theorem dX4_readSign_1 : decode cX4_readSign 1 = .ok (.aload_n 0, 1) := by decide +kernel
theorem dX4_readSign_2 : decode cX4_readSign 2 = .ok (.getfield 32, 3) := by decide +kernel
theorem dX4_readSign_5 : decode cX4_readSign 5 = .ok (.iload_n 1, 1) := by decide +kernel
theorem dX4_readSign_6 : decode cX4_readSign 6 = .ok (.invokevirtual 67, 3) := by decide +kernel
theorem dX4_readSign_9 : decode cX4_readSign 9 = .ok (.ifCond .ne 5, 3) := by decide +kernel
theorem dX4_readSign_12 : decode cX4_readSign 12 = .ok (.iconst 0, 1) := by decide +kernel
theorem dX4_readSign_13 : decode cX4_readSign 13 = .ok (.ireturn, 1) := by decide +kernel
theorem dX4_readSign_14 : decode cX4_readSign 14 = .ok (.aload_n 0, 1) := by decide +kernel
theorem dX4_readSign_15 : decode cX4_readSign 15 = .ok (.dup, 1) := by decide +kernel
theorem dX4_readSign_16 : decode cX4_readSign 16 = .ok (.getfield 32, 3) := by decide +kernel
theorem dX4_readSign_19 : decode cX4_readSign 19 = .ok (.iconst 1, 1) := by decide +kernel
theorem dX4_readSign_20 : decode cX4_readSign 20 = .ok (.iadd, 1) := by decide +kernel
theorem dX4_readSign_21 : decode cX4_readSign 21 = .ok (.putfield 32, 3) := by decide +kernel
theorem dX4_readSign_24 : decode cX4_readSign 24 = .ok (.iconst 1, 1) := by decide +kernel
theorem dX4_readSign_25 : decode cX4_readSign 25 = .ok (.ireturn, 1) := by decide +kernel
theorem dX4_isNext_0 : decode cX4_isNext 0 = .ok (.iload_n 1, 1) := by decide +kernel
theorem dX4_isNext_1 : decode cX4_isNext 1 = .ok (.ifCond .lt 34, 3) := by decide +kernel
theorem dX4_isNext_4 : decode cX4_isNext 4 = .ok (.iload_n 1, 1) := by decide +kernel
theorem dX4_isNext_5 : decode cX4_isNext 5 = .ok (.aload_n 0, 1) := by decide +kernel
theorem dX4_isNext_6 : decode cX4_isNext 6 = .ok (.getfield 15, 3) := by decide +kernel
theorem dX4_isNext_9 : decode cX4_isNext 9 = .ok (.if_icmp .ge 26, 3) := by decide +kernel
theorem dX4_isNext_12 : decode cX4_isNext 12 = .ok (.iload_n 1, 1) := by decide +kernel
theorem dX4_isNext_13 : decode cX4_isNext 13 = .ok (.aload_n 0, 1) := by decide +kernel
theorem dX4_isNext_14 : decode cX4_isNext 14 = .ok (.getfield 9, 3) := by decide +kernel
theorem dX4_isNext_17 : decode cX4_isNext 17 = .ok (.arraylength, 1) := by decide +kernel
theorem dX4_isNext_18 : decode cX4_isNext 18 = .ok (.if_icmp .ge 17, 3) := by decide +kernel
theorem dX4_isNext_21 : decode cX4_isNext 21 = .ok (.aload_n 0, 1) := by decide +kernel
theorem dX4_isNext_22 : decode cX4_isNext 22 = .ok (.getfield 9, 3) := by decide +kernel
theorem dX4_isNext_25 : decode cX4_isNext 25 = .ok (.iload_n 1, 1) := by decide +kernel
theorem dX4_isNext_26 : decode cX4_isNext 26 = .ok (.caload, 1) := by decide +kernel
theorem dX4_isNext_27 : decode cX4_isNext 27 = .ok (.iload_n 2, 1) := by decide +kernel
theorem dX4_isNext_28 : decode cX4_isNext 28 = .ok (.if_icmp .ne 7, 3) := by decide +kernel
theorem dX4_isNext_31 : decode cX4_isNext 31 = .ok (.iconst 1, 1) := by decide +kernel
theorem dX4_isNext_32 : decode cX4_isNext 32 = .ok (.goto 4, 3) := by decide +kernel
theorem dX4_isNext_35 : decode cX4_isNext 35 = .ok (.iconst 0, 1) := by decide +kernel
theorem dX4_isNext_36 : decode cX4_isNext 36 = .ok (.ireturn, 1) := by decide +kernel
theorem dX4_wordAt_0 : decode cX4_wordAt 0 = .ok (.iload_n 1, 1) := by decide +kernel
theorem dX4_wordAt_1 : decode cX4_wordAt 1 = .ok (.ifCond .lt 18, 3) := by decide +kernel
theorem dX4_wordAt_4 : decode cX4_wordAt 4 = .ok (.iload_n 1, 1) := by decide +kernel
theorem dX4_wordAt_5 : decode cX4_wordAt 5 = .ok (.bipush 12, 2) := by decide +kernel
theorem dX4_wordAt_7 : decode cX4_wordAt 7 = .ok (.if_icmp .ge 12, 3) := by decide +kernel
theorem dX4_wordAt_10 : decode cX4_wordAt 10 = .ok (.aload_n 0, 1) := by decide +kernel
theorem dX4_wordAt_11 : decode cX4_wordAt 11 = .ok (.getfield 19, 3) := by decide +kernel
theorem dX4_wordAt_14 : decode cX4_wordAt 14 = .ok (.iload_n 1, 1) := by decide +kernel
theorem dX4_wordAt_15 : decode cX4_wordAt 15 = .ok (.iaload, 1) := by decide +kernel
theorem dX4_wordAt_16 : decode cX4_wordAt 16 = .ok (.goto 4, 3) := by decide +kernel
theorem dX4_wordAt_19 : decode cX4_wordAt 19 = .ok (.iconst 0, 1) := by decide +kernel
theorem dX4_wordAt_20 : decode cX4_wordAt 20 = .ok (.ireturn, 1) := by decide +kernel
theorem dX4_firstAt_0 : decode cX4_firstAt 0 = .ok (.iload_n 1, 1) := by decide +kernel
theorem dX4_firstAt_1 : decode cX4_firstAt 1 = .ok (.ifCond .lt 18, 3) := by decide +kernel
theorem dX4_firstAt_4 : decode cX4_firstAt 4 = .ok (.iload_n 1, 1) := by decide +kernel
theorem dX4_firstAt_5 : decode cX4_firstAt 5 = .ok (.bipush 12, 2) := by decide +kernel
theorem dX4_firstAt_7 : decode cX4_firstAt 7 = .ok (.if_icmp .ge 12, 3) := by decide +kernel
theorem dX4_firstAt_10 : decode cX4_firstAt 10 = .ok (.aload_n 0, 1) := by decide +kernel
theorem dX4_firstAt_11 : decode cX4_firstAt 11 = .ok (.getfield 23, 3) := by decide +kernel
theorem dX4_firstAt_14 : decode cX4_firstAt 14 = .ok (.iload_n 1, 1) := by decide +kernel
theorem dX4_firstAt_15 : decode cX4_firstAt 15 = .ok (.iaload, 1) := by decide +kernel
theorem dX4_firstAt_16 : decode cX4_firstAt 16 = .ok (.goto 4, 3) := by decide +kernel
theorem dX4_firstAt_19 : decode cX4_firstAt 19 = .ok (.iconst 0, 1) := by decide +kernel
theorem dX4_firstAt_20 : decode cX4_firstAt 20 = .ok (.ireturn, 1) := by decide +kernel
theorem dX4_secondAt_0 : decode cX4_secondAt 0 = .ok (.iload_n 1, 1) := by decide +kernel
theorem dX4_secondAt_1 : decode cX4_secondAt 1 = .ok (.ifCond .lt 18, 3) := by decide +kernel
theorem dX4_secondAt_4 : decode cX4_secondAt 4 = .ok (.iload_n 1, 1) := by decide +kernel
theorem dX4_secondAt_5 : decode cX4_secondAt 5 = .ok (.bipush 12, 2) := by decide +kernel
theorem dX4_secondAt_7 : decode cX4_secondAt 7 = .ok (.if_icmp .ge 12, 3) := by decide +kernel
theorem dX4_secondAt_10 : decode cX4_secondAt 10 = .ok (.aload_n 0, 1) := by decide +kernel
theorem dX4_secondAt_11 : decode cX4_secondAt 11 = .ok (.getfield 26, 3) := by decide +kernel
theorem dX4_secondAt_14 : decode cX4_secondAt 14 = .ok (.iload_n 1, 1) := by decide +kernel
theorem dX4_secondAt_15 : decode cX4_secondAt 15 = .ok (.iaload, 1) := by decide +kernel
theorem dX4_secondAt_16 : decode cX4_secondAt 16 = .ok (.goto 4, 3) := by decide +kernel
theorem dX4_secondAt_19 : decode cX4_secondAt 19 = .ok (.iconst 0, 1) := by decide +kernel
theorem dX4_secondAt_20 : decode cX4_secondAt 20 = .ok (.ireturn, 1) := by decide +kernel
theorem dX4_nameOf_0 : decode cX4_nameOf 0 = .ok (.iload_n 0, 1) := by decide +kernel
theorem dX4_nameOf_1 : decode cX4_nameOf 1 = .ok (.tableswitch 78 1 9 #[51, 54, 57, 60, 63, 66, 69, 72, 75], 51) := by decide +kernel
theorem dX4_nameOf_52 : decode cX4_nameOf 52 = .ok (.ldc 74, 2) := by decide +kernel
theorem dX4_nameOf_54 : decode cX4_nameOf 54 = .ok (.areturn, 1) := by decide +kernel
theorem dX4_nameOf_55 : decode cX4_nameOf 55 = .ok (.ldc 76, 2) := by decide +kernel
theorem dX4_nameOf_57 : decode cX4_nameOf 57 = .ok (.areturn, 1) := by decide +kernel
theorem dX4_nameOf_58 : decode cX4_nameOf 58 = .ok (.ldc 78, 2) := by decide +kernel
theorem dX4_nameOf_60 : decode cX4_nameOf 60 = .ok (.areturn, 1) := by decide +kernel
theorem dX4_nameOf_61 : decode cX4_nameOf 61 = .ok (.ldc 80, 2) := by decide +kernel
theorem dX4_nameOf_63 : decode cX4_nameOf 63 = .ok (.areturn, 1) := by decide +kernel
theorem dX4_nameOf_64 : decode cX4_nameOf 64 = .ok (.ldc 82, 2) := by decide +kernel
theorem dX4_nameOf_66 : decode cX4_nameOf 66 = .ok (.areturn, 1) := by decide +kernel
theorem dX4_nameOf_67 : decode cX4_nameOf 67 = .ok (.ldc 84, 2) := by decide +kernel
theorem dX4_nameOf_69 : decode cX4_nameOf 69 = .ok (.areturn, 1) := by decide +kernel
theorem dX4_nameOf_70 : decode cX4_nameOf 70 = .ok (.ldc 86, 2) := by decide +kernel
theorem dX4_nameOf_72 : decode cX4_nameOf 72 = .ok (.areturn, 1) := by decide +kernel
theorem dX4_nameOf_73 : decode cX4_nameOf 73 = .ok (.ldc 88, 2) := by decide +kernel
theorem dX4_nameOf_75 : decode cX4_nameOf 75 = .ok (.areturn, 1) := by decide +kernel
theorem dX4_nameOf_76 : decode cX4_nameOf 76 = .ok (.ldc 90, 2) := by decide +kernel
theorem dX4_nameOf_78 : decode cX4_nameOf 78 = .ok (.areturn, 1) := by decide +kernel
theorem dX4_nameOf_79 : decode cX4_nameOf 79 = .ok (.ldc 92, 2) := by decide +kernel
theorem dX4_nameOf_81 : decode cX4_nameOf 81 = .ok (.areturn, 1) := by decide +kernel
