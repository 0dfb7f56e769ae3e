theorem dX1_init_0 : decode cX1_init 0 = .ok (.aload_n 0, 1) := by decide +kernel
theorem dX1_init_1 : decode cX1_init 1 = .ok (.invokespecial 3, 3) := by decide +kernel
theorem dX1_init_4 : decode cX1_init 4 = .ok (.aload_n 0, 1) := by decide +kernel
theorem dX1_init_5 : decode cX1_init 5 = .ok (.bipush 9, 2) := by decide +kernel
theorem dX1_init_7 : decode cX1_init 7 = .ok (.anewarray 9, 3) := by decide +kernel
theorem dX1_init_10 : decode cX1_init 10 = .ok (.putfield 11, 3) := by decide +kernel
theorem dX1_init_13 : decode cX1_init 13 = .ok (.aload_n 0, 1) := by decide +kernel
theorem dX1_init_14 : decode cX1_init 14 = .ok (.iconst 0, 1) := by decide +kernel
theorem dX1_init_15 : decode cX1_init 15 = .ok (.putfield 17, 3) := by decide +kernel
theorem dX1_init_18 : decode cX1_init 18 = .ok (.aload_n 0, 1) := by decide +kernel
theorem dX1_init_19 : decode cX1_init 19 = .ok (.iconst 0, 1) := by decide +kernel
theorem dX1_init_20 : decode cX1_init 20 = .ok (.putfield 21, 3) := by decide +kernel
theorem dX1_init_23 : decode cX1_init 23 = .ok (.iconst 0, 1) := by decide +kernel
theorem dX1_init_24 : decode cX1_init 24 = .ok (.istore_n 1, 1) := by decide +kernel
theorem dX1_init_25 : decode cX1_init 25 = .ok (.iload_n 1, 1) := by decide +kernel
theorem dX1_init_26 : decode cX1_init 26 = .ok (.bipush 9, 2) := by decide +kernel
theorem dX1_init_28 : decode cX1_init 28 = .ok (.if_icmp .ge 22, 3) := by decide +kernel
theorem dX1_init_31 : decode cX1_init 31 = .ok (.aload_n 0, 1) := by decide +kernel
theorem dX1_init_32 : decode cX1_init 32 = .ok (.getfield 11, 3) := by decide +kernel
theorem dX1_init_35 : decode cX1_init 35 = .ok (.iload_n 1, 1) := by decide +kernel
theorem dX1_init_36 : decode cX1_init 36 = .ok (.new 9, 3) := by decide +kernel
theorem dX1_init_39 : decode cX1_init 39 = .ok (.dup, 1) := by decide +kernel
theorem dX1_init_40 : decode cX1_init 40 = .ok (.invokespecial 24, 3) := by decide +kernel
theorem dX1_init_43 : decode cX1_init 43 = .ok (.aastore, 1) := by decide +kernel
theorem dX1_init_44 : decode cX1_init 44 = .ok (.iinc 1 1, 3) := by decide +kernel
theorem dX1_init_47 : decode cX1_init 47 = .ok (.goto (-22), 3) := by decide +kernel
theorem dX1_init_50 : decode cX1_init 50 = .ok (.return_, 1) := by decide +kernel
theorem dX1_note_0 : decode cX1_note 0 = .ok (.aload_n 0, 1) := by decide +kernel
theorem dX1_note_1 : decode cX1_note 1 = .ok (.getfield 17, 3) := by decide +kernel
theorem dX1_note_4 : decode cX1_note 4 = .ok (.ifCond .lt 34, 3) := by decide +kernel
theorem dX1_note_7 : decode cX1_note 7 = .ok (.aload_n 0, 1) := by decide +kernel
theorem dX1_note_8 : decode cX1_note 8 = .ok (.getfield 17, 3) := by decide +kernel
theorem dX1_note_11 : decode cX1_note 11 = .ok (.aload_n 0, 1) := by decide +kernel
theorem dX1_note_12 : decode cX1_note 12 = .ok (.getfield 11, 3) := by decide +kernel
theorem dX1_note_15 : decode cX1_note 15 = .ok (.arraylength, 1) := by decide +kernel
theorem dX1_note_16 : decode cX1_note 16 = .ok (.if_icmp .ge 22, 3) := by decide +kernel
theorem dX1_note_19 : decode cX1_note 19 = .ok (.aload_n 0, 1) := by decide +kernel
theorem dX1_note_20 : decode cX1_note 20 = .ok (.getfield 11, 3) := by decide +kernel
theorem dX1_note_23 : decode cX1_note 23 = .ok (.aload_n 0, 1) := by decide +kernel
theorem dX1_note_24 : decode cX1_note 24 = .ok (.getfield 17, 3) := by decide +kernel
theorem dX1_note_27 : decode cX1_note 27 = .ok (.aaload, 1) := by decide +kernel
theorem dX1_note_28 : decode cX1_note 28 = .ok (.astore_n 2, 1) := by decide +kernel
theorem dX1_note_29 : decode cX1_note 29 = .ok (.aload_n 2, 1) := by decide +kernel
theorem dX1_note_30 : decode cX1_note 30 = .ok (.ifnull 8, 3) := by decide +kernel
theorem dX1_note_33 : decode cX1_note 33 = .ok (.aload_n 2, 1) := by decide +kernel
theorem dX1_note_34 : decode cX1_note 34 = .ok (.aload_n 1, 1) := by decide +kernel
theorem dX1_note_35 : decode cX1_note 35 = .ok (.invokevirtual 25, 3) := by decide +kernel
theorem dX1_note_38 : decode cX1_note 38 = .ok (.return_, 1) := by decide +kernel
theorem dX1_copyNoteTo_0 : decode cX1_copyNoteTo 0 = .ok (.aload_n 0, 1) := by decide +kernel
theorem dX1_copyNoteTo_1 : decode cX1_copyNoteTo 1 = .ok (.getfield 17, 3) := by decide +kernel
theorem dX1_copyNoteTo_4 : decode cX1_copyNoteTo 4 = .ok (.ifCond .lt 34, 3) := by decide +kernel
theorem dX1_copyNoteTo_7 : decode cX1_copyNoteTo 7 = .ok (.aload_n 0, 1) := by decide +kernel
theorem dX1_copyNoteTo_8 : decode cX1_copyNoteTo 8 = .ok (.getfield 17, 3) := by decide +kernel
theorem dX1_copyNoteTo_11 : decode cX1_copyNoteTo 11 = .ok (.aload_n 0, 1) := by decide +kernel
theorem dX1_copyNoteTo_12 : decode cX1_copyNoteTo 12 = .ok (.getfield 11, 3) := by decide +kernel
theorem dX1_copyNoteTo_15 : decode cX1_copyNoteTo 15 = .ok (.arraylength, 1) := by decide +kernel
theorem dX1_copyNoteTo_16 : decode cX1_copyNoteTo 16 = .ok (.if_icmp .ge 22, 3) := by decide +kernel
theorem dX1_copyNoteTo_19 : decode cX1_copyNoteTo 19 = .ok (.aload_n 0, 1) := by decide +kernel
theorem dX1_copyNoteTo_20 : decode cX1_copyNoteTo 20 = .ok (.getfield 11, 3) := by decide +kernel
theorem dX1_copyNoteTo_23 : decode cX1_copyNoteTo 23 = .ok (.aload_n 0, 1) := by decide +kernel
theorem dX1_copyNoteTo_24 : decode cX1_copyNoteTo 24 = .ok (.getfield 17, 3) := by decide +kernel
theorem dX1_copyNoteTo_27 : decode cX1_copyNoteTo 27 = .ok (.aaload, 1) := by decide +kernel
theorem dX1_copyNoteTo_28 : decode cX1_copyNoteTo 28 = .ok (.astore_n 2, 1) := by decide +kernel
theorem dX1_copyNoteTo_29 : decode cX1_copyNoteTo 29 = .ok (.aload_n 2, 1) := by decide +kernel
theorem dX1_copyNoteTo_30 : decode cX1_copyNoteTo 30 = .ok (.ifnull 8, 3) := by decide +kernel
theorem dX1_copyNoteTo_33 : decode cX1_copyNoteTo 33 = .ok (.aload_n 1, 1) := by decide +kernel
theorem dX1_copyNoteTo_34 : decode cX1_copyNoteTo 34 = .ok (.aload_n 2, 1) := by decide +kernel
theorem dX1_copyNoteTo_35 : decode cX1_copyNoteTo 35 = .ok (.invokevirtual 25, 3) := by decide +kernel
theorem dX1_copyNoteTo_38 : decode cX1_copyNoteTo 38 = .ok (.return_, 1) := by decide +kernel
theorem dX1_keepNote_0 : decode cX1_keepNote 0 = .ok (.aload_n 0, 1) := by decide +kernel
theorem dX1_keepNote_1 : decode cX1_keepNote 1 = .ok (.aload_n 0, 1) := by decide +kernel
theorem dX1_keepNote_2 : decode cX1_keepNote 2 = .ok (.getfield 17, 3) := by decide +kernel
theorem dX1_keepNote_5 : decode cX1_keepNote 5 = .ok (.bipush 8, 2) := by decide +kernel
theorem dX1_keepNote_7 : decode cX1_keepNote 7 = .ok (.if_icmp .ge 12, 3) := by decide +kernel
theorem dX1_keepNote_10 : decode cX1_keepNote 10 = .ok (.aload_n 0, 1) := by decide +kernel
theorem dX1_keepNote_11 : decode cX1_keepNote 11 = .ok (.getfield 17, 3) := by decide +kernel
theorem dX1_keepNote_14 : decode cX1_keepNote 14 = .ok (.iconst 1, 1) := by decide +kernel
theorem dX1_keepNote_15 : decode cX1_keepNote 15 = .ok (.iadd, 1) := by decide +kernel
theorem dX1_keepNote_16 : decode cX1_keepNote 16 = .ok (.goto 4, 3) := by decide +kernel
theorem dX1_keepNote_19 : decode cX1_keepNote 19 = .ok (.iconst 0, 1) := by decide +kernel
theorem dX1_keepNote_20 : decode cX1_keepNote 20 = .ok (.putfield 17, 3) := by decide +kernel
theorem dX1_keepNote_23 : decode cX1_keepNote 23 = .ok (.aload_n 0, 1) := by decide +kernel
theorem dX1_keepNote_24 : decode cX1_keepNote 24 = .ok (.getfield 21, 3) := by decide +kernel
theorem dX1_keepNote_27 : decode cX1_keepNote 27 = .ok (.bipush 8, 2) := by decide +kernel
theorem dX1_keepNote_29 : decode cX1_keepNote 29 = .ok (.if_icmp .ge 13, 3) := by decide +kernel
theorem dX1_keepNote_32 : decode cX1_keepNote 32 = .ok (.aload_n 0, 1) := by decide +kernel
theorem dX1_keepNote_33 : decode cX1_keepNote 33 = .ok (.dup, 1) := by decide +kernel
theorem dX1_keepNote_34 : decode cX1_keepNote 34 = .ok (.getfield 21, 3) := by decide +kernel
theorem dX1_keepNote_37 : decode cX1_keepNote 37 = .ok (.iconst 1, 1) := by decide +kernel
theorem dX1_keepNote_38 : decode cX1_keepNote 38 = .ok (.iadd, 1) := by decide +kernel
theorem dX1_keepNote_39 : decode cX1_keepNote 39 = .ok (.putfield 21, 3) := by decide +kernel
theorem dX1_keepNote_42 : decode cX1_keepNote 42 = .ok (.return_, 1) := by decide +kernel
theorem dX1_stepBack_0 : decode cX1_stepBack 0 = .ok (.aload_n 0, 1) := by decide +kernel
theorem dX1_stepBack_1 : decode cX1_stepBack 1 = .ok (.aload_n 0, 1) := by decide +kernel
theorem dX1_stepBack_2 : decode cX1_stepBack 2 = .ok (.getfield 17, 3) := by decide +kernel
theorem dX1_stepBack_5 : decode cX1_stepBack 5 = .ok (.ifCond .le 12, 3) := by decide +kernel
theorem dX1_stepBack_8 : decode cX1_stepBack 8 = .ok (.aload_n 0, 1) := by decide +kernel
theorem dX1_stepBack_9 : decode cX1_stepBack 9 = .ok (.getfield 17, 3) := by decide +kernel
theorem dX1_stepBack_12 : decode cX1_stepBack 12 = .ok (.iconst 1, 1) := by decide +kernel
theorem dX1_stepBack_13 : decode cX1_stepBack 13 = .ok (.isub, 1) := by decide +kernel
theorem dX1_stepBack_14 : decode cX1_stepBack 14 = .ok (.goto 5, 3) := by decide +kernel
theorem dX1_stepBack_17 : decode cX1_stepBack 17 = .ok (.bipush 8, 2) := by decide +kernel
theorem dX1_stepBack_19 : decode cX1_stepBack 19 = .ok (.putfield 17, 3) := by decide +kernel
theorem dX1_stepBack_22 : decode cX1_stepBack 22 = .ok (.aload_n 0, 1) := by decide +kernel
theorem dX1_stepBack_23 : decode cX1_stepBack 23 = .ok (.dup, 1) := by decide +kernel
theorem dX1_stepBack_24 : decode cX1_stepBack 24 = .ok (.getfield 21, 3) := by decide +kernel
theorem dX1_stepBack_27 : decode cX1_stepBack 27 = .ok (.iconst 1, 1) := by decide +kernel
theorem dX1_stepBack_28 : decode cX1_stepBack 28 = .ok (.isub, 1) := by decide +kernel
theorem dX1_stepBack_29 : decode cX1_stepBack 29 = .ok (.putfield 21, 3) := by decide +kernel
theorem dX1_stepBack_32 : decode cX1_stepBack 32 = .ok (.aload_n 0, 1) := by decide +kernel
theorem dX1_stepBack_33 : decode cX1_stepBack 33 = .ok (.aload_n 1, 1) := by decide +kernel
theorem dX1_stepBack_34 : decode cX1_stepBack 34 = .ok (.invokevirtual 29, 3) := by decide +kernel
theorem dX1_stepBack_37 : decode cX1_stepBack 37 = .ok (.return_, 1) := by decide +kernel
