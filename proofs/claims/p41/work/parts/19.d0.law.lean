theorem dL_cell_0 : decode cL_cell 0 = .ok (.iload_n 1, 1) := by decide +kernel
theorem dL_cell_1 : decode cL_cell 1 = .ok (.aload_n 0, 1) := by decide +kernel
theorem dL_cell_2 : decode cL_cell 2 = .ok (.arraylength, 1) := by decide +kernel
theorem dL_cell_3 : decode cL_cell 3 = .ok (.if_icmp .ge 9, 3) := by decide +kernel
theorem dL_cell_6 : decode cL_cell 6 = .ok (.aload_n 0, 1) := by decide +kernel
theorem dL_cell_7 : decode cL_cell 7 = .ok (.iload_n 1, 1) := by decide +kernel
theorem dL_cell_8 : decode cL_cell 8 = .ok (.iaload, 1) := by decide +kernel
theorem dL_cell_9 : decode cL_cell 9 = .ok (.goto 7, 3) := by decide +kernel
theorem dL_cell_12 : decode cL_cell 12 = .ok (.ldc 7, 2) := by decide +kernel
theorem dL_cell_14 : decode cL_cell 14 = .ok (.iload_n 1, 1) := by decide +kernel
theorem dL_cell_15 : decode cL_cell 15 = .ok (.imul, 1) := by decide +kernel
theorem dL_cell_16 : decode cL_cell 16 = .ok (.ireturn, 1) := by decide +kernel
theorem dL_run_0 : decode cL_run 0 = .ok (.iconst 0, 1) := by decide +kernel
theorem dL_run_1 : decode cL_run 1 = .ok (.istore_n 2, 1) := by decide +kernel
theorem dL_run_2 : decode cL_run 2 = .ok (.iload_n 2, 1) := by decide +kernel
theorem dL_run_3 : decode cL_run 3 = .ok (.aload_n 1, 1) := by decide +kernel
theorem dL_run_4 : decode cL_run 4 = .ok (.invokevirtual 107, 3) := by decide +kernel
theorem dL_run_7 : decode cL_run 7 = .ok (.if_icmp .ge 27, 3) := by decide +kernel
theorem dL_run_10 : decode cL_run 10 = .ok (.aload_n 0, 1) := by decide +kernel
theorem dL_run_11 : decode cL_run 11 = .ok (.aload_n 1, 1) := by decide +kernel
theorem dL_run_12 : decode cL_run 12 = .ok (.iload_n 2, 1) := by decide +kernel
theorem dL_run_13 : decode cL_run 13 = .ok (.invokevirtual 112, 3) := by decide +kernel
theorem dL_run_16 : decode cL_run 16 = .ok (.invokestatic 115, 3) := by decide +kernel
theorem dL_run_19 : decode cL_run 19 = .ok (.iload_n 2, 1) := by decide +kernel
theorem dL_run_20 : decode cL_run 20 = .ok (.iconst 1, 1) := by decide +kernel
theorem dL_run_21 : decode cL_run 21 = .ok (.iadd, 1) := by decide +kernel
theorem dL_run_22 : decode cL_run 22 = .ok (.if_icmp .eq 6, 3) := by decide +kernel
theorem dL_run_25 : decode cL_run 25 = .ok (.bipush (-9), 2) := by decide +kernel
theorem dL_run_27 : decode cL_run 27 = .ok (.ireturn, 1) := by decide +kernel
theorem dL_run_28 : decode cL_run 28 = .ok (.iinc 2 1, 3) := by decide +kernel
theorem dL_run_31 : decode cL_run 31 = .ok (.goto (-29), 3) := by decide +kernel
theorem dL_run_34 : decode cL_run 34 = .ok (.aload_n 0, 1) := by decide +kernel
theorem dL_run_35 : decode cL_run 35 = .ok (.invokestatic 120, 3) := by decide +kernel
theorem dL_run_38 : decode cL_run 38 = .ok (.ireturn, 1) := by decide +kernel
theorem dL_props_0 : decode cL_props 0 = .ok (.aload_n 0, 1) := by decide +kernel
theorem dL_props_1 : decode cL_props 1 = .ok (.iconst 0, 1) := by decide +kernel
theorem dL_props_2 : decode cL_props 2 = .ok (.invokevirtual 136, 3) := by decide +kernel
theorem dL_props_5 : decode cL_props 5 = .ok (.bipush 7, 2) := by decide +kernel
theorem dL_props_7 : decode cL_props 7 = .ok (.multianewarray 152 2, 4) := by decide +kernel
theorem dL_props_11 : decode cL_props 11 = .ok (.astore_n 1, 1) := by decide +kernel
theorem dL_props_12 : decode cL_props 12 = .ok (.iconst 0, 1) := by decide +kernel
theorem dL_props_13 : decode cL_props 13 = .ok (.istore_n 2, 1) := by decide +kernel
theorem dL_props_14 : decode cL_props 14 = .ok (.iload_n 2, 1) := by decide +kernel
theorem dL_props_15 : decode cL_props 15 = .ok (.aload_n 1, 1) := by decide +kernel
theorem dL_props_16 : decode cL_props 16 = .ok (.arraylength, 1) := by decide +kernel
theorem dL_props_17 : decode cL_props 17 = .ok (.if_icmp .ge 34, 3) := by decide +kernel
theorem dL_props_20 : decode cL_props 20 = .ok (.iconst 0, 1) := by decide +kernel
theorem dL_props_21 : decode cL_props 21 = .ok (.istore_n 3, 1) := by decide +kernel
theorem dL_props_22 : decode cL_props 22 = .ok (.iload_n 3, 1) := by decide +kernel
theorem dL_props_23 : decode cL_props 23 = .ok (.bipush 7, 2) := by decide +kernel
theorem dL_props_25 : decode cL_props 25 = .ok (.if_icmp .ge 20, 3) := by decide +kernel
theorem dL_props_28 : decode cL_props 28 = .ok (.aload_n 1, 1) := by decide +kernel
theorem dL_props_29 : decode cL_props 29 = .ok (.iload_n 2, 1) := by decide +kernel
theorem dL_props_30 : decode cL_props 30 = .ok (.aaload, 1) := by decide +kernel
theorem dL_props_31 : decode cL_props 31 = .ok (.iload_n 3, 1) := by decide +kernel
theorem dL_props_32 : decode cL_props 32 = .ok (.aload_n 0, 1) := by decide +kernel
theorem dL_props_33 : decode cL_props 33 = .ok (.iload_n 2, 1) := by decide +kernel
theorem dL_props_34 : decode cL_props 34 = .ok (.iload_n 3, 1) := by decide +kernel
theorem dL_props_35 : decode cL_props 35 = .ok (.invokestatic 154, 3) := by decide +kernel
theorem dL_props_38 : decode cL_props 38 = .ok (.iastore, 1) := by decide +kernel
theorem dL_props_39 : decode cL_props 39 = .ok (.iinc 3 1, 3) := by decide +kernel
theorem dL_props_42 : decode cL_props 42 = .ok (.goto (-20), 3) := by decide +kernel
theorem dL_props_45 : decode cL_props 45 = .ok (.iinc 2 1, 3) := by decide +kernel
theorem dL_props_48 : decode cL_props 48 = .ok (.goto (-34), 3) := by decide +kernel
theorem dL_props_51 : decode cL_props 51 = .ok (.aload_n 1, 1) := by decide +kernel
theorem dL_props_52 : decode cL_props 52 = .ok (.areturn, 1) := by decide +kernel
theorem dL_there_0 : decode cL_there 0 = .ok (.iconst 5, 1) := by decide +kernel
theorem dL_there_1 : decode cL_there 1 = .ok (.newarray .boolean, 2) := by decide +kernel
theorem dL_there_3 : decode cL_there 3 = .ok (.astore_n 3, 1) := by decide +kernel
theorem dL_there_4 : decode cL_there 4 = .ok (.aload_n 0, 1) := by decide +kernel
theorem dL_there_5 : decode cL_there 5 = .ok (.astore 4, 2) := by decide +kernel
theorem dL_there_7 : decode cL_there 7 = .ok (.aload 4, 2) := by decide +kernel
theorem dL_there_9 : decode cL_there 9 = .ok (.arraylength, 1) := by decide +kernel
theorem dL_there_10 : decode cL_there 10 = .ok (.istore 5, 2) := by decide +kernel
theorem dL_there_12 : decode cL_there 12 = .ok (.iconst 0, 1) := by decide +kernel
theorem dL_there_13 : decode cL_there 13 = .ok (.istore 6, 2) := by decide +kernel
theorem dL_there_15 : decode cL_there 15 = .ok (.iload 6, 2) := by decide +kernel
theorem dL_there_17 : decode cL_there 17 = .ok (.iload 5, 2) := by decide +kernel
theorem dL_there_19 : decode cL_there 19 = .ok (.if_icmp .ge 44, 3) := by decide +kernel
theorem dL_there_22 : decode cL_there 22 = .ok (.aload 4, 2) := by decide +kernel
theorem dL_there_24 : decode cL_there 24 = .ok (.iload 6, 2) := by decide +kernel
theorem dL_there_26 : decode cL_there 26 = .ok (.aaload, 1) := by decide +kernel
theorem dL_there_27 : decode cL_there 27 = .ok (.astore 7, 2) := by decide +kernel
theorem dL_there_29 : decode cL_there 29 = .ok (.aload_n 3, 1) := by decide +kernel
theorem dL_there_30 : decode cL_there 30 = .ok (.aload 7, 2) := by decide +kernel
theorem dL_there_32 : decode cL_there 32 = .ok (.iconst 1, 1) := by decide +kernel
theorem dL_there_33 : decode cL_there 33 = .ok (.iaload, 1) := by decide +kernel
theorem dL_there_34 : decode cL_there 34 = .ok (.aload_n 3, 1) := by decide +kernel
theorem dL_there_35 : decode cL_there 35 = .ok (.aload 7, 2) := by decide +kernel
theorem dL_there_37 : decode cL_there 37 = .ok (.iconst 1, 1) := by decide +kernel
theorem dL_there_38 : decode cL_there 38 = .ok (.iaload, 1) := by decide +kernel
theorem dL_there_39 : decode cL_there 39 = .ok (.baload, 1) := by decide +kernel
theorem dL_there_40 : decode cL_there 40 = .ok (.ifCond .ne 11, 3) := by decide +kernel
theorem dL_there_43 : decode cL_there 43 = .ok (.aload 7, 2) := by decide +kernel
theorem dL_there_45 : decode cL_there 45 = .ok (.iconst 0, 1) := by decide +kernel
theorem dL_there_46 : decode cL_there 46 = .ok (.iaload, 1) := by decide +kernel
theorem dL_there_47 : decode cL_there 47 = .ok (.iconst 3, 1) := by decide +kernel
theorem dL_there_48 : decode cL_there 48 = .ok (.if_icmp .ne 7, 3) := by decide +kernel
theorem dL_there_51 : decode cL_there 51 = .ok (.iconst 1, 1) := by decide +kernel
theorem dL_there_52 : decode cL_there 52 = .ok (.goto 4, 3) := by decide +kernel
theorem dL_there_55 : decode cL_there 55 = .ok (.iconst 0, 1) := by decide +kernel
theorem dL_there_56 : decode cL_there 56 = .ok (.bastore, 1) := by decide +kernel
theorem dL_there_57 : decode cL_there 57 = .ok (.iinc 6 1, 3) := by decide +kernel
theorem dL_there_60 : decode cL_there 60 = .ok (.goto (-45), 3) := by decide +kernel
theorem dL_there_63 : decode cL_there 63 = .ok (.iload_n 1, 1) := by decide +kernel
theorem dL_there_64 : decode cL_there 64 = .ok (.istore 4, 2) := by decide +kernel
theorem dL_there_66 : decode cL_there 66 = .ok (.iconst 0, 1) := by decide +kernel
theorem dL_there_67 : decode cL_there 67 = .ok (.istore 5, 2) := by decide +kernel
theorem dL_there_69 : decode cL_there 69 = .ok (.iload 5, 2) := by decide +kernel
theorem dL_there_71 : decode cL_there 71 = .ok (.iload_n 2, 1) := by decide +kernel
theorem dL_there_72 : decode cL_there 72 = .ok (.if_icmp .ge 41, 3) := by decide +kernel
theorem dL_there_75 : decode cL_there 75 = .ok (.iconst 0, 1) := by decide +kernel
theorem dL_there_76 : decode cL_there 76 = .ok (.iload 4, 2) := by decide +kernel
theorem dL_there_78 : decode cL_there 78 = .ok (.iconst 1, 1) := by decide +kernel
theorem dL_there_79 : decode cL_there 79 = .ok (.isub, 1) := by decide +kernel
theorem dL_there_80 : decode cL_there 80 = .ok (.invokestatic 157, 3) := by decide +kernel
theorem dL_there_83 : decode cL_there 83 = .ok (.istore 4, 2) := by decide +kernel
theorem dL_there_85 : decode cL_there 85 = .ok (.aload_n 3, 1) := by decide +kernel
theorem dL_there_86 : decode cL_there 86 = .ok (.iload 5, 2) := by decide +kernel
theorem dL_there_88 : decode cL_there 88 = .ok (.baload, 1) := by decide +kernel
theorem dL_there_89 : decode cL_there 89 = .ok (.ifCond .eq 14, 3) := by decide +kernel
theorem dL_there_92 : decode cL_there 92 = .ok (.iconst 0, 1) := by decide +kernel
theorem dL_there_93 : decode cL_there 93 = .ok (.iload 4, 2) := by decide +kernel
theorem dL_there_95 : decode cL_there 95 = .ok (.iconst 1, 1) := by decide +kernel
theorem dL_there_96 : decode cL_there 96 = .ok (.isub, 1) := by decide +kernel
theorem dL_there_97 : decode cL_there 97 = .ok (.invokestatic 157, 3) := by decide +kernel
theorem dL_there_100 : decode cL_there 100 = .ok (.goto 5, 3) := by decide +kernel
theorem dL_there_103 : decode cL_there 103 = .ok (.iload 4, 2) := by decide +kernel
theorem dL_there_105 : decode cL_there 105 = .ok (.istore 4, 2) := by decide +kernel
theorem dL_there_107 : decode cL_there 107 = .ok (.iinc 5 1, 3) := by decide +kernel
theorem dL_there_110 : decode cL_there 110 = .ok (.goto (-41), 3) := by decide +kernel
theorem dL_there_113 : decode cL_there 113 = .ok (.iload 4, 2) := by decide +kernel
theorem dL_there_115 : decode cL_there 115 = .ok (.ireturn, 1) := by decide +kernel
theorem dL_many_0 : decode cL_many 0 = .ok (.iconst 0, 1) := by decide +kernel
theorem dL_many_1 : decode cL_many 1 = .ok (.istore_n 2, 1) := by decide +kernel
theorem dL_many_2 : decode cL_many 2 = .ok (.aload_n 0, 1) := by decide +kernel
theorem dL_many_3 : decode cL_many 3 = .ok (.astore_n 3, 1) := by decide +kernel
theorem dL_many_4 : decode cL_many 4 = .ok (.aload_n 3, 1) := by decide +kernel
theorem dL_many_5 : decode cL_many 5 = .ok (.arraylength, 1) := by decide +kernel
theorem dL_many_6 : decode cL_many 6 = .ok (.istore 4, 2) := by decide +kernel
theorem dL_many_8 : decode cL_many 8 = .ok (.iconst 0, 1) := by decide +kernel
theorem dL_many_9 : decode cL_many 9 = .ok (.istore 5, 2) := by decide +kernel
theorem dL_many_11 : decode cL_many 11 = .ok (.iload 5, 2) := by decide +kernel
theorem dL_many_13 : decode cL_many 13 = .ok (.iload 4, 2) := by decide +kernel
theorem dL_many_15 : decode cL_many 15 = .ok (.if_icmp .ge 31, 3) := by decide +kernel
theorem dL_many_18 : decode cL_many 18 = .ok (.aload_n 3, 1) := by decide +kernel
theorem dL_many_19 : decode cL_many 19 = .ok (.iload 5, 2) := by decide +kernel
theorem dL_many_21 : decode cL_many 21 = .ok (.aaload, 1) := by decide +kernel
theorem dL_many_22 : decode cL_many 22 = .ok (.astore 6, 2) := by decide +kernel
theorem dL_many_24 : decode cL_many 24 = .ok (.iload_n 2, 1) := by decide +kernel
theorem dL_many_25 : decode cL_many 25 = .ok (.aload 6, 2) := by decide +kernel
theorem dL_many_27 : decode cL_many 27 = .ok (.iconst 0, 1) := by decide +kernel
theorem dL_many_28 : decode cL_many 28 = .ok (.iaload, 1) := by decide +kernel
theorem dL_many_29 : decode cL_many 29 = .ok (.iload_n 1, 1) := by decide +kernel
theorem dL_many_30 : decode cL_many 30 = .ok (.if_icmp .ne 7, 3) := by decide +kernel
theorem dL_many_33 : decode cL_many 33 = .ok (.iconst 1, 1) := by decide +kernel
theorem dL_many_34 : decode cL_many 34 = .ok (.goto 4, 3) := by decide +kernel
theorem dL_many_37 : decode cL_many 37 = .ok (.iconst 0, 1) := by decide +kernel
theorem dL_many_38 : decode cL_many 38 = .ok (.iadd, 1) := by decide +kernel
theorem dL_many_39 : decode cL_many 39 = .ok (.istore_n 2, 1) := by decide +kernel
theorem dL_many_40 : decode cL_many 40 = .ok (.iinc 5 1, 3) := by decide +kernel
theorem dL_many_43 : decode cL_many 43 = .ok (.goto (-32), 3) := by decide +kernel
theorem dL_many_46 : decode cL_many 46 = .ok (.iload_n 2, 1) := by decide +kernel
theorem dL_many_47 : decode cL_many 47 = .ok (.ireturn, 1) := by decide +kernel
theorem dL_performs_0 : decode cL_performs 0 = .ok (.iconst 4, 1) := by decide +kernel
theorem dL_performs_1 : decode cL_performs 1 = .ok (.newarray .int, 2) := by decide +kernel
theorem dL_performs_3 : decode cL_performs 3 = .ok (.astore_n 2, 1) := by decide +kernel
theorem dL_performs_4 : decode cL_performs 4 = .ok (.aload_n 1, 1) := by decide +kernel
theorem dL_performs_5 : decode cL_performs 5 = .ok (.iconst 3, 1) := by decide +kernel
theorem dL_performs_6 : decode cL_performs 6 = .ok (.invokestatic 169, 3) := by decide +kernel
theorem dL_performs_9 : decode cL_performs 9 = .ok (.istore_n 3, 1) := by decide +kernel
theorem dL_performs_10 : decode cL_performs 10 = .ok (.iconst 0, 1) := by decide +kernel
theorem dL_performs_11 : decode cL_performs 11 = .ok (.istore 4, 2) := by decide +kernel
theorem dL_performs_13 : decode cL_performs 13 = .ok (.iload 4, 2) := by decide +kernel
theorem dL_performs_15 : decode cL_performs 15 = .ok (.aload_n 0, 1) := by decide +kernel
theorem dL_performs_16 : decode cL_performs 16 = .ok (.bipush 10, 2) := by decide +kernel
theorem dL_performs_18 : decode cL_performs 18 = .ok (.invokevirtual 136, 3) := by decide +kernel
theorem dL_performs_21 : decode cL_performs 21 = .ok (.if_icmp .ge 117, 3) := by decide +kernel
theorem dL_performs_24 : decode cL_performs 24 = .ok (.aload_n 0, 1) := by decide +kernel
theorem dL_performs_25 : decode cL_performs 25 = .ok (.iload 4, 2) := by decide +kernel
theorem dL_performs_27 : decode cL_performs 27 = .ok (.invokestatic 173, 3) := by decide +kernel
theorem dL_performs_30 : decode cL_performs 30 = .ok (.istore 5, 2) := by decide +kernel
theorem dL_performs_32 : decode cL_performs 32 = .ok (.aload_n 1, 1) := by decide +kernel
theorem dL_performs_33 : decode cL_performs 33 = .ok (.iload 5, 2) := by decide +kernel
theorem dL_performs_35 : decode cL_performs 35 = .ok (.invokestatic 175, 3) := by decide +kernel
theorem dL_performs_38 : decode cL_performs 38 = .ok (.astore 6, 2) := by decide +kernel
theorem dL_performs_40 : decode cL_performs 40 = .ok (.aload_n 2, 1) := by decide +kernel
theorem dL_performs_41 : decode cL_performs 41 = .ok (.iconst 1, 1) := by decide +kernel
theorem dL_performs_42 : decode cL_performs 42 = .ok (.dup2, 1) := by decide +kernel
theorem dL_performs_43 : decode cL_performs 43 = .ok (.iaload, 1) := by decide +kernel
theorem dL_performs_44 : decode cL_performs 44 = .ok (.aload 6, 2) := by decide +kernel
theorem dL_performs_46 : decode cL_performs 46 = .ok (.iconst 0, 1) := by decide +kernel
theorem dL_performs_47 : decode cL_performs 47 = .ok (.iaload, 1) := by decide +kernel
theorem dL_performs_48 : decode cL_performs 48 = .ok (.iadd, 1) := by decide +kernel
theorem dL_performs_49 : decode cL_performs 49 = .ok (.iastore, 1) := by decide +kernel
theorem dL_performs_50 : decode cL_performs 50 = .ok (.aload_n 2, 1) := by decide +kernel
theorem dL_performs_51 : decode cL_performs 51 = .ok (.iconst 2, 1) := by decide +kernel
theorem dL_performs_52 : decode cL_performs 52 = .ok (.dup2, 1) := by decide +kernel
theorem dL_performs_53 : decode cL_performs 53 = .ok (.iaload, 1) := by decide +kernel
theorem dL_performs_54 : decode cL_performs 54 = .ok (.aload 6, 2) := by decide +kernel
theorem dL_performs_56 : decode cL_performs 56 = .ok (.iconst 1, 1) := by decide +kernel
theorem dL_performs_57 : decode cL_performs 57 = .ok (.iaload, 1) := by decide +kernel
theorem dL_performs_58 : decode cL_performs 58 = .ok (.iadd, 1) := by decide +kernel
theorem dL_performs_59 : decode cL_performs 59 = .ok (.iastore, 1) := by decide +kernel
theorem dL_performs_60 : decode cL_performs 60 = .ok (.aload_n 2, 1) := by decide +kernel
theorem dL_performs_61 : decode cL_performs 61 = .ok (.iconst 3, 1) := by decide +kernel
theorem dL_performs_62 : decode cL_performs 62 = .ok (.dup2, 1) := by decide +kernel
theorem dL_performs_63 : decode cL_performs 63 = .ok (.iaload, 1) := by decide +kernel
theorem dL_performs_64 : decode cL_performs 64 = .ok (.iconst 1, 1) := by decide +kernel
theorem dL_performs_65 : decode cL_performs 65 = .ok (.iadd, 1) := by decide +kernel
theorem dL_performs_66 : decode cL_performs 66 = .ok (.iastore, 1) := by decide +kernel
theorem dL_performs_67 : decode cL_performs 67 = .ok (.iload_n 3, 1) := by decide +kernel
theorem dL_performs_68 : decode cL_performs 68 = .ok (.ifCond .le 64, 3) := by decide +kernel
theorem dL_performs_71 : decode cL_performs 71 = .ok (.aload 6, 2) := by decide +kernel
theorem dL_performs_73 : decode cL_performs 73 = .ok (.iconst 0, 1) := by decide +kernel
theorem dL_performs_74 : decode cL_performs 74 = .ok (.iaload, 1) := by decide +kernel
theorem dL_performs_75 : decode cL_performs 75 = .ok (.iconst 3, 1) := by decide +kernel
theorem dL_performs_76 : decode cL_performs 76 = .ok (.iload_n 3, 1) := by decide +kernel
theorem dL_performs_77 : decode cL_performs 77 = .ok (.imul, 1) := by decide +kernel
theorem dL_performs_78 : decode cL_performs 78 = .ok (.if_icmp .lt 54, 3) := by decide +kernel
theorem dL_performs_81 : decode cL_performs 81 = .ok (.iload 5, 2) := by decide +kernel
theorem dL_performs_83 : decode cL_performs 83 = .ok (.iconst 2, 1) := by decide +kernel
theorem dL_performs_84 : decode cL_performs 84 = .ok (.idiv, 1) := by decide +kernel
theorem dL_performs_85 : decode cL_performs 85 = .ok (.ifCond .le 47, 3) := by decide +kernel
theorem dL_performs_88 : decode cL_performs 88 = .ok (.aload_n 1, 1) := by decide +kernel
theorem dL_performs_89 : decode cL_performs 89 = .ok (.iload 5, 2) := by decide +kernel
theorem dL_performs_91 : decode cL_performs 91 = .ok (.iconst 2, 1) := by decide +kernel
theorem dL_performs_92 : decode cL_performs 92 = .ok (.idiv, 1) := by decide +kernel
theorem dL_performs_93 : decode cL_performs 93 = .ok (.invokestatic 175, 3) := by decide +kernel
theorem dL_performs_96 : decode cL_performs 96 = .ok (.astore 7, 2) := by decide +kernel
theorem dL_performs_98 : decode cL_performs 98 = .ok (.aload_n 2, 1) := by decide +kernel
theorem dL_performs_99 : decode cL_performs 99 = .ok (.iconst 0, 1) := by decide +kernel
theorem dL_performs_100 : decode cL_performs 100 = .ok (.dup2, 1) := by decide +kernel
theorem dL_performs_101 : decode cL_performs 101 = .ok (.iaload, 1) := by decide +kernel
theorem dL_performs_102 : decode cL_performs 102 = .ok (.iconst 1, 1) := by decide +kernel
theorem dL_performs_103 : decode cL_performs 103 = .ok (.iadd, 1) := by decide +kernel
theorem dL_performs_104 : decode cL_performs 104 = .ok (.iastore, 1) := by decide +kernel
theorem dL_performs_105 : decode cL_performs 105 = .ok (.aload_n 2, 1) := by decide +kernel
theorem dL_performs_106 : decode cL_performs 106 = .ok (.iconst 1, 1) := by decide +kernel
theorem dL_performs_107 : decode cL_performs 107 = .ok (.dup2, 1) := by decide +kernel
theorem dL_performs_108 : decode cL_performs 108 = .ok (.iaload, 1) := by decide +kernel
theorem dL_performs_109 : decode cL_performs 109 = .ok (.aload 7, 2) := by decide +kernel
theorem dL_performs_111 : decode cL_performs 111 = .ok (.iconst 0, 1) := by decide +kernel
theorem dL_performs_112 : decode cL_performs 112 = .ok (.iaload, 1) := by decide +kernel
theorem dL_performs_113 : decode cL_performs 113 = .ok (.iadd, 1) := by decide +kernel
theorem dL_performs_114 : decode cL_performs 114 = .ok (.iastore, 1) := by decide +kernel
theorem dL_performs_115 : decode cL_performs 115 = .ok (.aload_n 2, 1) := by decide +kernel
theorem dL_performs_116 : decode cL_performs 116 = .ok (.iconst 2, 1) := by decide +kernel
theorem dL_performs_117 : decode cL_performs 117 = .ok (.dup2, 1) := by decide +kernel
theorem dL_performs_118 : decode cL_performs 118 = .ok (.iaload, 1) := by decide +kernel
theorem dL_performs_119 : decode cL_performs 119 = .ok (.aload 7, 2) := by decide +kernel
theorem dL_performs_121 : decode cL_performs 121 = .ok (.iconst 1, 1) := by decide +kernel
theorem dL_performs_122 : decode cL_performs 122 = .ok (.iaload, 1) := by decide +kernel
theorem dL_performs_123 : decode cL_performs 123 = .ok (.iadd, 1) := by decide +kernel
theorem dL_performs_124 : decode cL_performs 124 = .ok (.iastore, 1) := by decide +kernel
theorem dL_performs_125 : decode cL_performs 125 = .ok (.aload_n 2, 1) := by decide +kernel
theorem dL_performs_126 : decode cL_performs 126 = .ok (.iconst 3, 1) := by decide +kernel
theorem dL_performs_127 : decode cL_performs 127 = .ok (.dup2, 1) := by decide +kernel
theorem dL_performs_128 : decode cL_performs 128 = .ok (.iaload, 1) := by decide +kernel
theorem dL_performs_129 : decode cL_performs 129 = .ok (.iconst 1, 1) := by decide +kernel
theorem dL_performs_130 : decode cL_performs 130 = .ok (.iadd, 1) := by decide +kernel
theorem dL_performs_131 : decode cL_performs 131 = .ok (.iastore, 1) := by decide +kernel
theorem dL_performs_132 : decode cL_performs 132 = .ok (.iinc 4 1, 3) := by decide +kernel
theorem dL_performs_135 : decode cL_performs 135 = .ok (.goto (-122), 3) := by decide +kernel
theorem dL_performs_138 : decode cL_performs 138 = .ok (.aload_n 2, 1) := by decide +kernel
theorem dL_performs_139 : decode cL_performs 139 = .ok (.areturn, 1) := by decide +kernel
theorem dL_spells_0 : decode cL_spells 0 = .ok (.iload_n 1, 1) := by decide +kernel
theorem dL_spells_1 : decode cL_spells 1 = .ok (.aload_n 2, 1) := by decide +kernel
theorem dL_spells_2 : decode cL_spells 2 = .ok (.invokevirtual 107, 3) := by decide +kernel
theorem dL_spells_5 : decode cL_spells 5 = .ok (.if_icmp .ne 7, 3) := by decide +kernel
theorem dL_spells_8 : decode cL_spells 8 = .ok (.iconst 1, 1) := by decide +kernel
theorem dL_spells_9 : decode cL_spells 9 = .ok (.goto 4, 3) := by decide +kernel
theorem dL_spells_12 : decode cL_spells 12 = .ok (.iconst 0, 1) := by decide +kernel
theorem dL_spells_13 : decode cL_spells 13 = .ok (.istore_n 3, 1) := by decide +kernel
theorem dL_spells_14 : decode cL_spells 14 = .ok (.iconst 0, 1) := by decide +kernel
theorem dL_spells_15 : decode cL_spells 15 = .ok (.istore 4, 2) := by decide +kernel
theorem dL_spells_17 : decode cL_spells 17 = .ok (.iload 4, 2) := by decide +kernel
theorem dL_spells_19 : decode cL_spells 19 = .ok (.aload_n 2, 1) := by decide +kernel
theorem dL_spells_20 : decode cL_spells 20 = .ok (.invokevirtual 107, 3) := by decide +kernel
theorem dL_spells_23 : decode cL_spells 23 = .ok (.if_icmp .ge 34, 3) := by decide +kernel
theorem dL_spells_26 : decode cL_spells 26 = .ok (.iload_n 3, 1) := by decide +kernel
theorem dL_spells_27 : decode cL_spells 27 = .ok (.ifCond .eq 30, 3) := by decide +kernel
theorem dL_spells_30 : decode cL_spells 30 = .ok (.aload_n 0, 1) := by decide +kernel
theorem dL_spells_31 : decode cL_spells 31 = .ok (.iload 4, 2) := by decide +kernel
theorem dL_spells_33 : decode cL_spells 33 = .ok (.invokestatic 245, 3) := by decide +kernel
theorem dL_spells_36 : decode cL_spells 36 = .ok (.aload_n 2, 1) := by decide +kernel
theorem dL_spells_37 : decode cL_spells 37 = .ok (.iload 4, 2) := by decide +kernel
theorem dL_spells_39 : decode cL_spells 39 = .ok (.invokevirtual 112, 3) := by decide +kernel
theorem dL_spells_42 : decode cL_spells 42 = .ok (.if_icmp .ne 7, 3) := by decide +kernel
theorem dL_spells_45 : decode cL_spells 45 = .ok (.iconst 1, 1) := by decide +kernel
theorem dL_spells_46 : decode cL_spells 46 = .ok (.goto 4, 3) := by decide +kernel
theorem dL_spells_49 : decode cL_spells 49 = .ok (.iconst 0, 1) := by decide +kernel
theorem dL_spells_50 : decode cL_spells 50 = .ok (.istore_n 3, 1) := by decide +kernel
theorem dL_spells_51 : decode cL_spells 51 = .ok (.iinc 4 1, 3) := by decide +kernel
theorem dL_spells_54 : decode cL_spells 54 = .ok (.goto (-37), 3) := by decide +kernel
theorem dL_spells_57 : decode cL_spells 57 = .ok (.iload_n 3, 1) := by decide +kernel
theorem dL_spells_58 : decode cL_spells 58 = .ok (.ifCond .eq 17, 3) := by decide +kernel
theorem dL_spells_61 : decode cL_spells 61 = .ok (.aload_n 0, 1) := by decide +kernel
theorem dL_spells_62 : decode cL_spells 62 = .ok (.iload_n 1, 1) := by decide +kernel
theorem dL_spells_63 : decode cL_spells 63 = .ok (.invokestatic 245, 3) := by decide +kernel
theorem dL_spells_66 : decode cL_spells 66 = .ok (.bipush (-11), 2) := by decide +kernel
theorem dL_spells_68 : decode cL_spells 68 = .ok (.if_icmp .ne 7, 3) := by decide +kernel
theorem dL_spells_71 : decode cL_spells 71 = .ok (.iconst 1, 1) := by decide +kernel
theorem dL_spells_72 : decode cL_spells 72 = .ok (.goto 4, 3) := by decide +kernel
theorem dL_spells_75 : decode cL_spells 75 = .ok (.iconst 0, 1) := by decide +kernel
theorem dL_spells_76 : decode cL_spells 76 = .ok (.ireturn, 1) := by decide +kernel
theorem dL_sum_0 : decode cL_sum 0 = .ok (.ldc2_w 284, 3) := by decide +kernel
theorem dL_sum_3 : decode cL_sum 3 = .ok (.lstore_n 1, 1) := by decide +kernel
theorem dL_sum_4 : decode cL_sum 4 = .ok (.iconst 0, 1) := by decide +kernel
theorem dL_sum_5 : decode cL_sum 5 = .ok (.istore_n 3, 1) := by decide +kernel
theorem dL_sum_6 : decode cL_sum 6 = .ok (.iload_n 3, 1) := by decide +kernel
theorem dL_sum_7 : decode cL_sum 7 = .ok (.bipush 11, 2) := by decide +kernel
theorem dL_sum_9 : decode cL_sum 9 = .ok (.if_icmp .ge 22, 3) := by decide +kernel
theorem dL_sum_12 : decode cL_sum 12 = .ok (.ldc2_w 286, 3) := by decide +kernel
theorem dL_sum_15 : decode cL_sum 15 = .ok (.lload_n 1, 1) := by decide +kernel
theorem dL_sum_16 : decode cL_sum 16 = .ok (.lmul, 1) := by decide +kernel
theorem dL_sum_17 : decode cL_sum 17 = .ok (.aload_n 0, 1) := by decide +kernel
theorem dL_sum_18 : decode cL_sum 18 = .ok (.iload_n 3, 1) := by decide +kernel
theorem dL_sum_19 : decode cL_sum 19 = .ok (.invokevirtual 136, 3) := by decide +kernel
theorem dL_sum_22 : decode cL_sum 22 = .ok (.i2l, 1) := by decide +kernel
theorem dL_sum_23 : decode cL_sum 23 = .ok (.ladd, 1) := by decide +kernel
theorem dL_sum_24 : decode cL_sum 24 = .ok (.lstore_n 1, 1) := by decide +kernel
theorem dL_sum_25 : decode cL_sum 25 = .ok (.iinc 3 1, 3) := by decide +kernel
theorem dL_sum_28 : decode cL_sum 28 = .ok (.goto (-22), 3) := by decide +kernel
theorem dL_sum_31 : decode cL_sum 31 = .ok (.iconst 0, 1) := by decide +kernel
theorem dL_sum_32 : decode cL_sum 32 = .ok (.istore_n 3, 1) := by decide +kernel
theorem dL_sum_33 : decode cL_sum 33 = .ok (.iload_n 3, 1) := by decide +kernel
theorem dL_sum_34 : decode cL_sum 34 = .ok (.bipush 7, 2) := by decide +kernel
theorem dL_sum_36 : decode cL_sum 36 = .ok (.aload_n 0, 1) := by decide +kernel
theorem dL_sum_37 : decode cL_sum 37 = .ok (.iconst 0, 1) := by decide +kernel
theorem dL_sum_38 : decode cL_sum 38 = .ok (.invokevirtual 136, 3) := by decide +kernel
theorem dL_sum_41 : decode cL_sum 41 = .ok (.imul, 1) := by decide +kernel
theorem dL_sum_42 : decode cL_sum 42 = .ok (.if_icmp .ge 29, 3) := by decide +kernel
theorem dL_sum_45 : decode cL_sum 45 = .ok (.ldc2_w 288, 3) := by decide +kernel
theorem dL_sum_48 : decode cL_sum 48 = .ok (.lload_n 1, 1) := by decide +kernel
theorem dL_sum_49 : decode cL_sum 49 = .ok (.lmul, 1) := by decide +kernel
theorem dL_sum_50 : decode cL_sum 50 = .ok (.aload_n 0, 1) := by decide +kernel
theorem dL_sum_51 : decode cL_sum 51 = .ok (.iload_n 3, 1) := by decide +kernel
theorem dL_sum_52 : decode cL_sum 52 = .ok (.bipush 7, 2) := by decide +kernel
theorem dL_sum_54 : decode cL_sum 54 = .ok (.idiv, 1) := by decide +kernel
theorem dL_sum_55 : decode cL_sum 55 = .ok (.iload_n 3, 1) := by decide +kernel
theorem dL_sum_56 : decode cL_sum 56 = .ok (.bipush 7, 2) := by decide +kernel
theorem dL_sum_58 : decode cL_sum 58 = .ok (.irem, 1) := by decide +kernel
theorem dL_sum_59 : decode cL_sum 59 = .ok (.invokestatic 154, 3) := by decide +kernel
theorem dL_sum_62 : decode cL_sum 62 = .ok (.i2l, 1) := by decide +kernel
theorem dL_sum_63 : decode cL_sum 63 = .ok (.ladd, 1) := by decide +kernel
theorem dL_sum_64 : decode cL_sum 64 = .ok (.lstore_n 1, 1) := by decide +kernel
theorem dL_sum_65 : decode cL_sum 65 = .ok (.iinc 3 1, 3) := by decide +kernel
theorem dL_sum_68 : decode cL_sum 68 = .ok (.goto (-35), 3) := by decide +kernel
theorem dL_sum_71 : decode cL_sum 71 = .ok (.iconst 0, 1) := by decide +kernel
theorem dL_sum_72 : decode cL_sum 72 = .ok (.istore_n 3, 1) := by decide +kernel
theorem dL_sum_73 : decode cL_sum 73 = .ok (.iload_n 3, 1) := by decide +kernel
theorem dL_sum_74 : decode cL_sum 74 = .ok (.aload_n 0, 1) := by decide +kernel
theorem dL_sum_75 : decode cL_sum 75 = .ok (.bipush 10, 2) := by decide +kernel
theorem dL_sum_77 : decode cL_sum 77 = .ok (.invokevirtual 136, 3) := by decide +kernel
theorem dL_sum_80 : decode cL_sum 80 = .ok (.if_icmp .ge 22, 3) := by decide +kernel
theorem dL_sum_83 : decode cL_sum 83 = .ok (.ldc2_w 290, 3) := by decide +kernel
theorem dL_sum_86 : decode cL_sum 86 = .ok (.lload_n 1, 1) := by decide +kernel
theorem dL_sum_87 : decode cL_sum 87 = .ok (.lmul, 1) := by decide +kernel
theorem dL_sum_88 : decode cL_sum 88 = .ok (.aload_n 0, 1) := by decide +kernel
theorem dL_sum_89 : decode cL_sum 89 = .ok (.iload_n 3, 1) := by decide +kernel
theorem dL_sum_90 : decode cL_sum 90 = .ok (.invokestatic 173, 3) := by decide +kernel
theorem dL_sum_93 : decode cL_sum 93 = .ok (.i2l, 1) := by decide +kernel
theorem dL_sum_94 : decode cL_sum 94 = .ok (.ladd, 1) := by decide +kernel
theorem dL_sum_95 : decode cL_sum 95 = .ok (.lstore_n 1, 1) := by decide +kernel
theorem dL_sum_96 : decode cL_sum 96 = .ok (.iinc 3 1, 3) := by decide +kernel
theorem dL_sum_99 : decode cL_sum 99 = .ok (.goto (-26), 3) := by decide +kernel
theorem dL_sum_102 : decode cL_sum 102 = .ok (.lload_n 1, 1) := by decide +kernel
theorem dL_sum_103 : decode cL_sum 103 = .ok (.lreturn, 1) := by decide +kernel
