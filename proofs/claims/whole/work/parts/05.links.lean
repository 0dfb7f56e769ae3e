theorem qk_0 : Cond.selects RX5 yX5_change yX5_change ∈ lw_gd := List.mem_filter.mpr ⟨List.mem_of_getElem? (i := 0) (by decide +kernel), by decide +kernel⟩
theorem qk_1 : Cond.selects RX5 yX5_tryOrder yX5_tryOrder ∈ lw_gd := List.mem_filter.mpr ⟨List.mem_of_getElem? (i := 1) (by decide +kernel), by decide +kernel⟩
theorem qk_2 : Cond.selects RX5 yX5_tryPlacing yX5_tryPlacing ∈ lw_gd := List.mem_filter.mpr ⟨List.mem_of_getElem? (i := 2) (by decide +kernel), by decide +kernel⟩
theorem qk_3 : Cond.selects RX5 yX5_refuse yX5_refuse ∈ lw_gd := List.mem_filter.mpr ⟨List.mem_of_getElem? (i := 3) (by decide +kernel), by decide +kernel⟩
theorem qk_4 : Cond.selects RX5 yX5_answered yX5_answered ∈ lw_gd := List.mem_filter.mpr ⟨List.mem_of_getElem? (i := 4) (by decide +kernel), by decide +kernel⟩
theorem qk_5 : Cond.selects RX5 yX5_tryTaking yX5_tryTaking ∈ lw_gd := List.mem_filter.mpr ⟨List.mem_of_getElem? (i := 5) (by decide +kernel), by decide +kernel⟩
theorem qk_6 : Cond.selects RX5 yX5_tryCueing yX5_tryCueing ∈ lw_gd := List.mem_filter.mpr ⟨List.mem_of_getElem? (i := 6) (by decide +kernel), by decide +kernel⟩
theorem qk_7 : Cond.selects RX5 yX5_trySetting yX5_trySetting ∈ lw_gd := List.mem_filter.mpr ⟨List.mem_of_getElem? (i := 7) (by decide +kernel), by decide +kernel⟩
theorem qk_8 : Cond.selects RX5 yX5_tryAdding yX5_tryAdding ∈ lw_gd := List.mem_filter.mpr ⟨List.mem_of_getElem? (i := 8) (by decide +kernel), by decide +kernel⟩
theorem qk_9 : Cond.selects RX5 yX5_marksInThought yX5_marksInThought ∈ lw_gd := List.mem_filter.mpr ⟨List.mem_of_getElem? (i := 9) (by decide +kernel), by decide +kernel⟩
theorem qk_10 : Cond.selects RX5 yX5_isReachAlike yX5_isReachAlike ∈ lw_gd := List.mem_filter.mpr ⟨List.mem_of_getElem? (i := 10) (by decide +kernel), by decide +kernel⟩
theorem qk_11 : Cond.selects RX5 yX5_areBreakagesAlike yX5_areBreakagesAlike ∈ lw_gd := List.mem_filter.mpr ⟨List.mem_of_getElem? (i := 11) (by decide +kernel), by decide +kernel⟩
theorem qk_12 : Cond.selects RX5 yX5_breakagesInThought yX5_breakagesInThought ∈ lw_gd := List.mem_filter.mpr ⟨List.mem_of_getElem? (i := 12) (by decide +kernel), by decide +kernel⟩
theorem qk_13 : Cond.selects RX5 yX5_placed yX5_placed ∈ lw_gd := List.mem_filter.mpr ⟨List.mem_of_getElem? (i := 13) (by decide +kernel), by decide +kernel⟩
theorem qk_14 : Cond.selects "java/lang/Throwable" ⟨"java/lang/Throwable", "fillInStackTrace", "(I)Ljava/lang/Throwable;"⟩ ⟨"java/lang/Throwable", "fillInStackTrace", "(I)Ljava/lang/Throwable;"⟩ ∈ lw_gd := List.mem_filter.mpr ⟨List.mem_of_getElem? (i := 14) (by decide +kernel), by decide +kernel⟩
theorem qk_15 : Cond.selects RX5 yX5_strengthTold yX5_strengthTold ∈ lw_gd := List.mem_filter.mpr ⟨List.mem_of_getElem? (i := 15) (by decide +kernel), by decide +kernel⟩
theorem qk_16 : Cond.selects RX5 yX5_propNumbered yX5_propNumbered ∈ lw_gd := List.mem_filter.mpr ⟨List.mem_of_getElem? (i := 16) (by decide +kernel), by decide +kernel⟩
theorem qk_17 : Cond.selects RX5 yX5_numberInOrder yX5_numberInOrder ∈ lw_gd := List.mem_filter.mpr ⟨List.mem_of_getElem? (i := 17) (by decide +kernel), by decide +kernel⟩
theorem qk_18 : Cond.selects RX6 yX6_keep yX6_keep ∈ lw_gd := List.mem_filter.mpr ⟨List.mem_of_getElem? (i := 18) (by decide +kernel), by decide +kernel⟩
theorem qk_19 : Cond.selects RX6 yX6_comes yX6_comes ∈ lw_gd := List.mem_filter.mpr ⟨List.mem_of_getElem? (i := 19) (by decide +kernel), by decide +kernel⟩
theorem qk_20 : Cond.selects RX6 yX6_fails yX6_fails ∈ lw_gd := List.mem_filter.mpr ⟨List.mem_of_getElem? (i := 20) (by decide +kernel), by decide +kernel⟩
theorem qk_21 : Cond.selects RX6 yX6_refuse yX6_refuse ∈ lw_gd := List.mem_filter.mpr ⟨List.mem_of_getElem? (i := 21) (by decide +kernel), by decide +kernel⟩
theorem qk_22 : Cond.selects RX6 yX6_there yX6_there ∈ lw_gd := List.mem_filter.mpr ⟨List.mem_of_getElem? (i := 22) (by decide +kernel), by decide +kernel⟩
theorem qk_23 : Cond.selects RX6 yX6_of yX6_of ∈ lw_gd := List.mem_filter.mpr ⟨List.mem_of_getElem? (i := 23) (by decide +kernel), by decide +kernel⟩
theorem qk_24 : Cond.selects RX6 yX6_sets yX6_sets ∈ lw_gd := List.mem_filter.mpr ⟨List.mem_of_getElem? (i := 24) (by decide +kernel), by decide +kernel⟩
theorem qk_25 : Cond.selects RX6 yX6_ends yX6_ends ∈ lw_gd := List.mem_filter.mpr ⟨List.mem_of_getElem? (i := 25) (by decide +kernel), by decide +kernel⟩
theorem qk_26 : Cond.selects RX6 yX6_doTake yX6_doTake ∈ lw_gd := List.mem_filter.mpr ⟨List.mem_of_getElem? (i := 26) (by decide +kernel), by decide +kernel⟩
theorem qk_27 : Cond.selects RX6 yX6_isProp yX6_isProp ∈ lw_gd := List.mem_filter.mpr ⟨List.mem_of_getElem? (i := 27) (by decide +kernel), by decide +kernel⟩
theorem qk_28 : Cond.selects RX6 yX6_doCue yX6_doCue ∈ lw_gd := List.mem_filter.mpr ⟨List.mem_of_getElem? (i := 28) (by decide +kernel), by decide +kernel⟩
theorem qk_29 : Cond.selects RX6 yX6_doSet yX6_doSet ∈ lw_gd := List.mem_filter.mpr ⟨List.mem_of_getElem? (i := 29) (by decide +kernel), by decide +kernel⟩
theorem qk_30 : Cond.selects RX6 yX6_shocks yX6_shocks ∈ lw_gd := List.mem_filter.mpr ⟨List.mem_of_getElem? (i := 30) (by decide +kernel), by decide +kernel⟩
theorem qk_31 : Cond.selects RX6 yX6_strengthOn yX6_strengthOn ∈ lw_gd := List.mem_filter.mpr ⟨List.mem_of_getElem? (i := 31) (by decide +kernel), by decide +kernel⟩
theorem qk_32 : Cond.selects RX6 yX6_shakes yX6_shakes ∈ lw_gd := List.mem_filter.mpr ⟨List.mem_of_getElem? (i := 32) (by decide +kernel), by decide +kernel⟩
theorem qk_33 : Cond.selects RX6 yX6_swings yX6_swings ∈ lw_gd := List.mem_filter.mpr ⟨List.mem_of_getElem? (i := 33) (by decide +kernel), by decide +kernel⟩
theorem qk_34 : Cond.selects RX6 yX6_marks yX6_marks ∈ lw_gd := List.mem_filter.mpr ⟨List.mem_of_getElem? (i := 34) (by decide +kernel), by decide +kernel⟩
theorem qk_35 : Cond.selects RX6 yX6_doAdd yX6_doAdd ∈ lw_gd := List.mem_filter.mpr ⟨List.mem_of_getElem? (i := 35) (by decide +kernel), by decide +kernel⟩
theorem qk_36 : Cond.selects RX6 yX6_doPerform yX6_doPerform ∈ lw_gd := List.mem_filter.mpr ⟨List.mem_of_getElem? (i := 36) (by decide +kernel), by decide +kernel⟩
theorem qk_37 : Cond.selects RX6 yX6_kindMany yX6_kindMany ∈ lw_gd := List.mem_filter.mpr ⟨List.mem_of_getElem? (i := 37) (by decide +kernel), by decide +kernel⟩
theorem qk_38 : Cond.selects RX6 yX6_doQuiet yX6_doQuiet ∈ lw_gd := List.mem_filter.mpr ⟨List.mem_of_getElem? (i := 38) (by decide +kernel), by decide +kernel⟩
theorem qk_39 : Cond.selects RX6 yX6_would yX6_would ∈ lw_gd := List.mem_filter.mpr ⟨List.mem_of_getElem? (i := 39) (by decide +kernel), by decide +kernel⟩
theorem qk_40 : Cond.selects RX6 yX6_thinks yX6_thinks ∈ lw_gd := List.mem_filter.mpr ⟨List.mem_of_getElem? (i := 40) (by decide +kernel), by decide +kernel⟩
theorem qk_41 : Cond.selects RX6 yX6_forgets yX6_forgets ∈ lw_gd := List.mem_filter.mpr ⟨List.mem_of_getElem? (i := 41) (by decide +kernel), by decide +kernel⟩
theorem qk_42 : Cond.selects RX6 yX6_placed yX6_placed ∈ lw_gd := List.mem_filter.mpr ⟨List.mem_of_getElem? (i := 42) (by decide +kernel), by decide +kernel⟩
theorem qk_43 : Cond.selects RX6 yX6_ahead yX6_ahead ∈ lw_gd := List.mem_filter.mpr ⟨List.mem_of_getElem? (i := 43) (by decide +kernel), by decide +kernel⟩
theorem qk_44 : Cond.selects RX6 yX6_says yX6_says ∈ lw_gd := List.mem_filter.mpr ⟨List.mem_of_getElem? (i := 44) (by decide +kernel), by decide +kernel⟩
theorem qk_45 : Cond.selects RX6 yX6_saysNumber yX6_saysNumber ∈ lw_gd := List.mem_filter.mpr ⟨List.mem_of_getElem? (i := 45) (by decide +kernel), by decide +kernel⟩
theorem qk_46 : Cond.selects RX6 yX6_saysValue yX6_saysValue ∈ lw_gd := List.mem_filter.mpr ⟨List.mem_of_getElem? (i := 46) (by decide +kernel), by decide +kernel⟩
theorem qk_47 : Cond.selects RX6 yX6_readOrder yX6_readOrder ∈ lw_gd := List.mem_filter.mpr ⟨List.mem_of_getElem? (i := 47) (by decide +kernel), by decide +kernel⟩
theorem qk_48 : Cond.selects RX6 yX6_word yX6_word ∈ lw_gd := List.mem_filter.mpr ⟨List.mem_of_getElem? (i := 48) (by decide +kernel), by decide +kernel⟩
theorem qk_49 : Cond.selects RX6 yX6_common yX6_common ∈ lw_gd := List.mem_filter.mpr ⟨List.mem_of_getElem? (i := 49) (by decide +kernel), by decide +kernel⟩
theorem qk_50 : Cond.selects RX6 yX6_skip yX6_skip ∈ lw_gd := List.mem_filter.mpr ⟨List.mem_of_getElem? (i := 50) (by decide +kernel), by decide +kernel⟩
theorem qk_51 : Cond.selects RX6 yX6_sign yX6_sign ∈ lw_gd := List.mem_filter.mpr ⟨List.mem_of_getElem? (i := 51) (by decide +kernel), by decide +kernel⟩
theorem qk_52 : Cond.selects RX6 yX6_isHere yX6_isHere ∈ lw_gd := List.mem_filter.mpr ⟨List.mem_of_getElem? (i := 52) (by decide +kernel), by decide +kernel⟩
theorem qk_53 : Cond.selects RX6 yX6_number yX6_number ∈ lw_gd := List.mem_filter.mpr ⟨List.mem_of_getElem? (i := 53) (by decide +kernel), by decide +kernel⟩
theorem qk_54 : Cond.selects RX6 yX6_digit yX6_digit ∈ lw_gd := List.mem_filter.mpr ⟨List.mem_of_getElem? (i := 54) (by decide +kernel), by decide +kernel⟩
theorem qk_55 : Cond.selects RX6 yX6_does yX6_does ∈ lw_gd := List.mem_filter.mpr ⟨List.mem_of_getElem? (i := 55) (by decide +kernel), by decide +kernel⟩
theorem qk_56 : Cond.selects RX6 yX6_brokenMany yX6_brokenMany ∈ lw_gd := List.mem_filter.mpr ⟨List.mem_of_getElem? (i := 56) (by decide +kernel), by decide +kernel⟩
theorem qk_57 : Cond.initialized "QuakeRehearsalLaw" ∈ lw_gd := List.mem_filter.mpr ⟨List.mem_of_getElem? (i := 57) (by decide +kernel), by decide +kernel⟩
theorem qk_58 : Cond.initialized RX5 ∈ lw_gd := List.mem_filter.mpr ⟨List.mem_of_getElem? (i := 58) (by decide +kernel), by decide +kernel⟩
theorem qk_59 : Cond.initialized RX0 ∈ lw_gd := List.mem_filter.mpr ⟨List.mem_of_getElem? (i := 59) (by decide +kernel), by decide +kernel⟩
theorem qk_60 : Cond.initialized RX3 ∈ lw_gd := List.mem_filter.mpr ⟨List.mem_of_getElem? (i := 60) (by decide +kernel), by decide +kernel⟩
theorem qk_61 : Cond.initialized RX1 ∈ lw_gd := List.mem_filter.mpr ⟨List.mem_of_getElem? (i := 61) (by decide +kernel), by decide +kernel⟩
theorem qk_62 : Cond.initialized RX4 ∈ lw_gd := List.mem_filter.mpr ⟨List.mem_of_getElem? (i := 62) (by decide +kernel), by decide +kernel⟩
theorem qk_63 : Cond.initialized RX2 ∈ lw_gd := List.mem_filter.mpr ⟨List.mem_of_getElem? (i := 63) (by decide +kernel), by decide +kernel⟩
theorem qk_64 : Cond.initialized RX6 ∈ lw_gd := List.mem_filter.mpr ⟨List.mem_of_getElem? (i := 64) (by decide +kernel), by decide +kernel⟩
theorem qk_65 : Cond.initialized "java/lang/Math" ∈ lw_gd := List.mem_filter.mpr ⟨List.mem_of_getElem? (i := 65) (by decide +kernel), by decide +kernel⟩
theorem qk_66 : Cond.initialized "java/lang/Throwable" ∈ lw_gd := List.mem_filter.mpr ⟨List.mem_of_getElem? (i := 66) (by decide +kernel), by decide +kernel⟩
theorem qk_67 : Cond.initialized "java/lang/Exception" ∈ lw_gd := List.mem_filter.mpr ⟨List.mem_of_getElem? (i := 67) (by decide +kernel), by decide +kernel⟩
theorem qk_68 : Cond.initialized "java/lang/RuntimeException" ∈ lw_gd := List.mem_filter.mpr ⟨List.mem_of_getElem? (i := 68) (by decide +kernel), by decide +kernel⟩
theorem qk_69 : Cond.initialized "java/lang/IllegalArgumentException" ∈ lw_gd := List.mem_filter.mpr ⟨List.mem_of_getElem? (i := 69) (by decide +kernel), by decide +kernel⟩
theorem qk_70 : Cond.initialized "java/lang/UnsupportedOperationException" ∈ lw_gd := List.mem_filter.mpr ⟨List.mem_of_getElem? (i := 70) (by decide +kernel), by decide +kernel⟩
theorem qk_71 : Cond.initialized "java/lang/System" ∈ lw_gd := List.mem_filter.mpr ⟨List.mem_of_getElem? (i := 71) (by decide +kernel), by decide +kernel⟩
theorem qk_72 : Cond.initialized "java/lang/IndexOutOfBoundsException" ∈ lw_gd := List.mem_filter.mpr ⟨List.mem_of_getElem? (i := 72) (by decide +kernel), by decide +kernel⟩
theorem qk_73 : Cond.initialized "java/lang/ArrayIndexOutOfBoundsException" ∈ lw_gd := List.mem_filter.mpr ⟨List.mem_of_getElem? (i := 73) (by decide +kernel), by decide +kernel⟩
theorem qk_74 : Cond.initialized "java/lang/String" ∈ lw_gd := List.mem_filter.mpr ⟨List.mem_of_getElem? (i := 74) (by decide +kernel), by decide +kernel⟩
theorem qk_75 : Cond.initialized "java/util/NoSuchElementException" ∈ lw_gd := List.mem_filter.mpr ⟨List.mem_of_getElem? (i := 75) (by decide +kernel), by decide +kernel⟩
theorem qk_76 : Cond.initialized "java/lang/Number" ∈ lw_gd := List.mem_filter.mpr ⟨List.mem_of_getElem? (i := 76) (by decide +kernel), by decide +kernel⟩
theorem qk_77 : Cond.initialized RJ6 ∈ lw_gd := List.mem_filter.mpr ⟨List.mem_of_getElem? (i := 77) (by decide +kernel), by decide +kernel⟩
theorem qk_78 : Cond.initialized "java/lang/StringLatin1" ∈ lw_gd := List.mem_filter.mpr ⟨List.mem_of_getElem? (i := 78) (by decide +kernel), by decide +kernel⟩
theorem qk_79 : Cond.initialized "jdk/internal/util/Preconditions" ∈ lw_gd := List.mem_filter.mpr ⟨List.mem_of_getElem? (i := 79) (by decide +kernel), by decide +kernel⟩
theorem qk_80 : Cond.initialized "java/lang/StringUTF16" ∈ lw_gd := List.mem_filter.mpr ⟨List.mem_of_getElem? (i := 80) (by decide +kernel), by decide +kernel⟩
theorem qk_81 : Cond.initialized "java/lang/IllegalStateException" ∈ lw_gd := List.mem_filter.mpr ⟨List.mem_of_getElem? (i := 81) (by decide +kernel), by decide +kernel⟩
theorem qk_82 : Cond.initialized "java/lang/Character" ∈ lw_gd := List.mem_filter.mpr ⟨List.mem_of_getElem? (i := 82) (by decide +kernel), by decide +kernel⟩
theorem qk_83 : Cond.initialized "java/util/Arrays" ∈ lw_gd := List.mem_filter.mpr ⟨List.mem_of_getElem? (i := 83) (by decide +kernel), by decide +kernel⟩
theorem qk_84 : Cond.initialized "java/lang/AbstractStringBuilder" ∈ lw_gd := List.mem_filter.mpr ⟨List.mem_of_getElem? (i := 84) (by decide +kernel), by decide +kernel⟩
theorem qk_85 : Cond.initialized "java/lang/StringBuilder" ∈ lw_gd := List.mem_filter.mpr ⟨List.mem_of_getElem? (i := 85) (by decide +kernel), by decide +kernel⟩
theorem qk_86 : Cond.initialized "jdk/internal/util/ArraysSupport" ∈ lw_gd := List.mem_filter.mpr ⟨List.mem_of_getElem? (i := 86) (by decide +kernel), by decide +kernel⟩
theorem qk_87 : Cond.initialized "java/lang/ArithmeticException" ∈ lw_gd := List.mem_filter.mpr ⟨List.mem_of_getElem? (i := 87) (by decide +kernel), by decide +kernel⟩
theorem qk_88 : Cond.classLink "QuakeRehearsalLaw" 8 "QuakeRehearsal" ∈ lw_gd := List.mem_filter.mpr ⟨List.mem_of_getElem? (i := 88) (by decide +kernel), by decide +kernel⟩
theorem qk_90 : Cond.methodLink "QuakeRehearsalLaw" 122 yX5_init ∈ lw_gd := List.mem_filter.mpr ⟨List.mem_of_getElem? (i := 90) (by decide +kernel), by decide +kernel⟩
theorem qk_91 : Cond.instanceMethod yX5_init ∈ lw_gd := List.mem_filter.mpr ⟨List.mem_of_getElem? (i := 91) (by decide +kernel), by decide +kernel⟩
theorem qk_92 : Cond.code yX5_init cX5_init 1 (none) ∈ lw_gd := List.mem_filter.mpr ⟨List.mem_of_getElem? (i := 92) (by decide +kernel), by decide +kernel⟩
theorem qk_93 : Cond.methodLink RX5 1 ⟨"java/lang/Object", "<init>", "()V"⟩ ∈ lw_gd := List.mem_filter.mpr ⟨List.mem_of_getElem? (i := 93) (by decide +kernel), by decide +kernel⟩
theorem qk_94 : Cond.instanceMethod ⟨"java/lang/Object", "<init>", "()V"⟩ ∈ lw_gd := List.mem_filter.mpr ⟨List.mem_of_getElem? (i := 94) (by decide +kernel), by decide +kernel⟩
theorem qk_96 : Cond.classLink RX5 7 "QuakeRehearsal$Hall" ∈ lw_gd := List.mem_filter.mpr ⟨List.mem_of_getElem? (i := 96) (by decide +kernel), by decide +kernel⟩
theorem qk_98 : Cond.methodLink RX5 9 yX0_init ∈ lw_gd := List.mem_filter.mpr ⟨List.mem_of_getElem? (i := 98) (by decide +kernel), by decide +kernel⟩
theorem qk_99 : Cond.instanceMethod yX0_init ∈ lw_gd := List.mem_filter.mpr ⟨List.mem_of_getElem? (i := 99) (by decide +kernel), by decide +kernel⟩
theorem qk_100 : Cond.code yX0_init cX0_init 2 (none) ∈ lw_gd := List.mem_filter.mpr ⟨List.mem_of_getElem? (i := 100) (by decide +kernel), by decide +kernel⟩
theorem qk_101 : Cond.methodLink RX0 3 ⟨"java/lang/Object", "<init>", "()V"⟩ ∈ lw_gd := List.mem_filter.mpr ⟨List.mem_of_getElem? (i := 101) (by decide +kernel), by decide +kernel⟩
theorem qk_102 : Cond.classLink RX0 9 "QuakeRehearsal$Prop" ∈ lw_gd := List.mem_filter.mpr ⟨List.mem_of_getElem? (i := 102) (by decide +kernel), by decide +kernel⟩
theorem qk_106 : Cond.instanceMethod yX3_init ∈ lw_gd := List.mem_filter.mpr ⟨List.mem_of_getElem? (i := 106) (by decide +kernel), by decide +kernel⟩
theorem qk_107 : Cond.code yX3_init cX3_init 1 (none) ∈ lw_gd := List.mem_filter.mpr ⟨List.mem_of_getElem? (i := 107) (by decide +kernel), by decide +kernel⟩
theorem qk_108 : Cond.methodLink RX3 3 ⟨"java/lang/Object", "<init>", "()V"⟩ ∈ lw_gd := List.mem_filter.mpr ⟨List.mem_of_getElem? (i := 108) (by decide +kernel), by decide +kernel⟩
theorem qk_109 : Cond.fieldLink RX3 9 "QuakeRehearsal$Prop" "kind" "I" ∈ lw_gd := List.mem_filter.mpr ⟨List.mem_of_getElem? (i := 109) (by decide +kernel), by decide +kernel⟩
theorem qk_110 : Cond.fieldLink RX2 23 "QuakeRehearsal$Prop" "kind" "I" ∈ lw_gd := List.mem_filter.mpr ⟨List.mem_of_getElem? (i := 110) (by decide +kernel), by decide +kernel⟩
theorem qk_111 : Cond.fieldLink RX0 70 "QuakeRehearsal$Prop" "kind" "I" ∈ lw_gd := List.mem_filter.mpr ⟨List.mem_of_getElem? (i := 111) (by decide +kernel), by decide +kernel⟩
theorem qk_112 : Cond.fieldLink RX5 94 "QuakeRehearsal$Prop" "kind" "I" ∈ lw_gd := List.mem_filter.mpr ⟨List.mem_of_getElem? (i := 112) (by decide +kernel), by decide +kernel⟩
theorem qk_113 : Cond.fieldLink RX3 15 "QuakeRehearsal$Prop" "floor" "I" ∈ lw_gd := List.mem_filter.mpr ⟨List.mem_of_getElem? (i := 113) (by decide +kernel), by decide +kernel⟩
theorem qk_114 : Cond.fieldLink RX2 28 "QuakeRehearsal$Prop" "floor" "I" ∈ lw_gd := List.mem_filter.mpr ⟨List.mem_of_getElem? (i := 114) (by decide +kernel), by decide +kernel⟩
theorem qk_115 : Cond.fieldLink RX0 73 "QuakeRehearsal$Prop" "floor" "I" ∈ lw_gd := List.mem_filter.mpr ⟨List.mem_of_getElem? (i := 115) (by decide +kernel), by decide +kernel⟩
theorem qk_116 : Cond.fieldLink RX5 99 "QuakeRehearsal$Prop" "floor" "I" ∈ lw_gd := List.mem_filter.mpr ⟨List.mem_of_getElem? (i := 116) (by decide +kernel), by decide +kernel⟩
theorem qk_117 : Cond.fieldLink RX3 18 "QuakeRehearsal$Prop" "measure" "I" ∈ lw_gd := List.mem_filter.mpr ⟨List.mem_of_getElem? (i := 117) (by decide +kernel), by decide +kernel⟩
theorem qk_118 : Cond.fieldLink RX2 35 "QuakeRehearsal$Prop" "measure" "I" ∈ lw_gd := List.mem_filter.mpr ⟨List.mem_of_getElem? (i := 118) (by decide +kernel), by decide +kernel⟩
theorem qk_119 : Cond.fieldLink RX0 80 "QuakeRehearsal$Prop" "measure" "I" ∈ lw_gd := List.mem_filter.mpr ⟨List.mem_of_getElem? (i := 119) (by decide +kernel), by decide +kernel⟩
theorem qk_120 : Cond.fieldLink RX5 102 "QuakeRehearsal$Prop" "measure" "I" ∈ lw_gd := List.mem_filter.mpr ⟨List.mem_of_getElem? (i := 120) (by decide +kernel), by decide +kernel⟩
theorem qk_121 : Cond.fieldLink RX3 21 "QuakeRehearsal$Prop" "damage" "I" ∈ lw_gd := List.mem_filter.mpr ⟨List.mem_of_getElem? (i := 121) (by decide +kernel), by decide +kernel⟩
theorem qk_122 : Cond.fieldLink RX2 38 "QuakeRehearsal$Prop" "damage" "I" ∈ lw_gd := List.mem_filter.mpr ⟨List.mem_of_getElem? (i := 122) (by decide +kernel), by decide +kernel⟩
theorem qk_123 : Cond.fieldLink RX5 105 "QuakeRehearsal$Prop" "damage" "I" ∈ lw_gd := List.mem_filter.mpr ⟨List.mem_of_getElem? (i := 123) (by decide +kernel), by decide +kernel⟩
theorem qk_124 : Cond.fieldLink RX0 138 "QuakeRehearsal$Prop" "damage" "I" ∈ lw_gd := List.mem_filter.mpr ⟨List.mem_of_getElem? (i := 124) (by decide +kernel), by decide +kernel⟩
theorem qk_125 : Cond.fieldLink RX3 24 "QuakeRehearsal$Prop" "broken" "Z" ∈ lw_gd := List.mem_filter.mpr ⟨List.mem_of_getElem? (i := 125) (by decide +kernel), by decide +kernel⟩
theorem qk_126 : Cond.fieldLink RX2 44 "QuakeRehearsal$Prop" "broken" "Z" ∈ lw_gd := List.mem_filter.mpr ⟨List.mem_of_getElem? (i := 126) (by decide +kernel), by decide +kernel⟩
theorem qk_127 : Cond.fieldLink RX0 76 "QuakeRehearsal$Prop" "broken" "Z" ∈ lw_gd := List.mem_filter.mpr ⟨List.mem_of_getElem? (i := 127) (by decide +kernel), by decide +kernel⟩
theorem qk_128 : Cond.fieldLink RX5 108 "QuakeRehearsal$Prop" "broken" "Z" ∈ lw_gd := List.mem_filter.mpr ⟨List.mem_of_getElem? (i := 128) (by decide +kernel), by decide +kernel⟩
theorem qk_129 : Cond.fieldLink RX3 28 "QuakeRehearsal$Prop" "cued" "I" ∈ lw_gd := List.mem_filter.mpr ⟨List.mem_of_getElem? (i := 129) (by decide +kernel), by decide +kernel⟩
theorem qk_130 : Cond.fieldLink RX2 41 "QuakeRehearsal$Prop" "cued" "I" ∈ lw_gd := List.mem_filter.mpr ⟨List.mem_of_getElem? (i := 130) (by decide +kernel), by decide +kernel⟩
theorem qk_131 : Cond.fieldLink RX5 111 "QuakeRehearsal$Prop" "cued" "I" ∈ lw_gd := List.mem_filter.mpr ⟨List.mem_of_getElem? (i := 131) (by decide +kernel), by decide +kernel⟩
theorem qk_132 : Cond.fieldLink RX3 31 "QuakeRehearsal$Prop" "tally" "I" ∈ lw_gd := List.mem_filter.mpr ⟨List.mem_of_getElem? (i := 132) (by decide +kernel), by decide +kernel⟩
theorem qk_133 : Cond.fieldLink RX5 114 "QuakeRehearsal$Prop" "tally" "I" ∈ lw_gd := List.mem_filter.mpr ⟨List.mem_of_getElem? (i := 133) (by decide +kernel), by decide +kernel⟩
theorem qk_149 : Cond.fieldLink RX0 11 "QuakeRehearsal$Hall" "props" "[LQuakeRehearsal$Prop;" ∈ lw_gd := List.mem_filter.mpr ⟨List.mem_of_getElem? (i := 149) (by decide +kernel), by decide +kernel⟩
theorem qk_150 : Cond.fieldLink RX0 18 "QuakeRehearsal$Hall" "nobody" "LQuakeRehearsal$Prop;" ∈ lw_gd := List.mem_filter.mpr ⟨List.mem_of_getElem? (i := 150) (by decide +kernel), by decide +kernel⟩
theorem qk_151 : Cond.fieldLink RX0 22 "QuakeRehearsal$Hall" "propCount" "I" ∈ lw_gd := List.mem_filter.mpr ⟨List.mem_of_getElem? (i := 151) (by decide +kernel), by decide +kernel⟩
theorem qk_152 : Cond.fieldLink RX5 250 "QuakeRehearsal$Hall" "propCount" "I" ∈ lw_gd := List.mem_filter.mpr ⟨List.mem_of_getElem? (i := 152) (by decide +kernel), by decide +kernel⟩
theorem qk_153 : Cond.fieldLink RX0 26 "QuakeRehearsal$Hall" "planned" "[I" ∈ lw_gd := List.mem_filter.mpr ⟨List.mem_of_getElem? (i := 153) (by decide +kernel), by decide +kernel⟩
theorem qk_154 : Cond.fieldLink RX0 30 "QuakeRehearsal$Hall" "plannedCount" "I" ∈ lw_gd := List.mem_filter.mpr ⟨List.mem_of_getElem? (i := 154) (by decide +kernel), by decide +kernel⟩
theorem qk_155 : Cond.fieldLink RX2 48 "QuakeRehearsal$Hall" "plannedCount" "I" ∈ lw_gd := List.mem_filter.mpr ⟨List.mem_of_getElem? (i := 155) (by decide +kernel), by decide +kernel⟩
theorem qk_156 : Cond.fieldLink RX5 119 "QuakeRehearsal$Hall" "plannedCount" "I" ∈ lw_gd := List.mem_filter.mpr ⟨List.mem_of_getElem? (i := 156) (by decide +kernel), by decide +kernel⟩
theorem qk_157 : Cond.fieldLink RX0 33 "QuakeRehearsal$Hall" "strength" "I" ∈ lw_gd := List.mem_filter.mpr ⟨List.mem_of_getElem? (i := 157) (by decide +kernel), by decide +kernel⟩
theorem qk_158 : Cond.fieldLink RX5 172 "QuakeRehearsal$Hall" "strength" "I" ∈ lw_gd := List.mem_filter.mpr ⟨List.mem_of_getElem? (i := 158) (by decide +kernel), by decide +kernel⟩
theorem qk_159 : Cond.fieldLink RX0 36 "QuakeRehearsal$Hall" "shocks" "I" ∈ lw_gd := List.mem_filter.mpr ⟨List.mem_of_getElem? (i := 159) (by decide +kernel), by decide +kernel⟩
theorem qk_160 : Cond.fieldLink RX5 259 "QuakeRehearsal$Hall" "shocks" "I" ∈ lw_gd := List.mem_filter.mpr ⟨List.mem_of_getElem? (i := 160) (by decide +kernel), by decide +kernel⟩
theorem qk_161 : Cond.fieldLink RX0 39 "QuakeRehearsal$Hall" "encores" "I" ∈ lw_gd := List.mem_filter.mpr ⟨List.mem_of_getElem? (i := 161) (by decide +kernel), by decide +kernel⟩
theorem qk_162 : Cond.fieldLink RX5 262 "QuakeRehearsal$Hall" "encores" "I" ∈ lw_gd := List.mem_filter.mpr ⟨List.mem_of_getElem? (i := 162) (by decide +kernel), by decide +kernel⟩
theorem qk_163 : Cond.fieldLink RX0 42 "QuakeRehearsal$Hall" "marks" "I" ∈ lw_gd := List.mem_filter.mpr ⟨List.mem_of_getElem? (i := 163) (by decide +kernel), by decide +kernel⟩
theorem qk_164 : Cond.fieldLink RX5 265 "QuakeRehearsal$Hall" "marks" "I" ∈ lw_gd := List.mem_filter.mpr ⟨List.mem_of_getElem? (i := 164) (by decide +kernel), by decide +kernel⟩
theorem qk_165 : Cond.fieldLink RX0 45 "QuakeRehearsal$Hall" "breakages" "I" ∈ lw_gd := List.mem_filter.mpr ⟨List.mem_of_getElem? (i := 165) (by decide +kernel), by decide +kernel⟩
theorem qk_166 : Cond.fieldLink RX5 167 "QuakeRehearsal$Hall" "breakages" "I" ∈ lw_gd := List.mem_filter.mpr ⟨List.mem_of_getElem? (i := 166) (by decide +kernel), by decide +kernel⟩
theorem qk_167 : Cond.fieldLink RX0 48 "QuakeRehearsal$Hall" "hasCat" "[Z" ∈ lw_gd := List.mem_filter.mpr ⟨List.mem_of_getElem? (i := 167) (by decide +kernel), by decide +kernel⟩
theorem qk_168 : Cond.fieldLink RX0 52 "QuakeRehearsal$Hall" "reach" "[I" ∈ lw_gd := List.mem_filter.mpr ⟨List.mem_of_getElem? (i := 168) (by decide +kernel), by decide +kernel⟩
theorem qk_169 : Cond.fieldLink RX0 55 "QuakeRehearsal$Hall" "hasBreakage" "[Z" ∈ lw_gd := List.mem_filter.mpr ⟨List.mem_of_getElem? (i := 169) (by decide +kernel), by decide +kernel⟩
theorem qk_199 : Cond.classLink RX5 22 "QuakeRehearsal$History" ∈ lw_gd := List.mem_filter.mpr ⟨List.mem_of_getElem? (i := 199) (by decide +kernel), by decide +kernel⟩
theorem qk_201 : Cond.methodLink RX5 24 yX1_init ∈ lw_gd := List.mem_filter.mpr ⟨List.mem_of_getElem? (i := 201) (by decide +kernel), by decide +kernel⟩
theorem qk_202 : Cond.instanceMethod yX1_init ∈ lw_gd := List.mem_filter.mpr ⟨List.mem_of_getElem? (i := 202) (by decide +kernel), by decide +kernel⟩
theorem qk_203 : Cond.code yX1_init cX1_init 2 (none) ∈ lw_gd := List.mem_filter.mpr ⟨List.mem_of_getElem? (i := 203) (by decide +kernel), by decide +kernel⟩
theorem qk_204 : Cond.methodLink RX1 3 ⟨"java/lang/Object", "<init>", "()V"⟩ ∈ lw_gd := List.mem_filter.mpr ⟨List.mem_of_getElem? (i := 204) (by decide +kernel), by decide +kernel⟩
theorem qk_205 : Cond.classLink RX1 9 "QuakeRehearsal$Hall" ∈ lw_gd := List.mem_filter.mpr ⟨List.mem_of_getElem? (i := 205) (by decide +kernel), by decide +kernel⟩
theorem qk_207 : Cond.methodLink RX1 24 yX0_init ∈ lw_gd := List.mem_filter.mpr ⟨List.mem_of_getElem? (i := 207) (by decide +kernel), by decide +kernel⟩
theorem qk_208 : Cond.fieldLink RX1 11 "QuakeRehearsal$History" "kept" "[LQuakeRehearsal$Hall;" ∈ lw_gd := List.mem_filter.mpr ⟨List.mem_of_getElem? (i := 208) (by decide +kernel), by decide +kernel⟩
theorem qk_209 : Cond.fieldLink RX1 17 "QuakeRehearsal$History" "next" "I" ∈ lw_gd := List.mem_filter.mpr ⟨List.mem_of_getElem? (i := 209) (by decide +kernel), by decide +kernel⟩
theorem qk_210 : Cond.fieldLink RX1 21 "QuakeRehearsal$History" "depth" "I" ∈ lw_gd := List.mem_filter.mpr ⟨List.mem_of_getElem? (i := 210) (by decide +kernel), by decide +kernel⟩
theorem qk_211 : Cond.fieldLink RX5 268 "QuakeRehearsal$History" "depth" "I" ∈ lw_gd := List.mem_filter.mpr ⟨List.mem_of_getElem? (i := 211) (by decide +kernel), by decide +kernel⟩
theorem qk_219 : Cond.classLink RX5 29 "QuakeRehearsal$Script" ∈ lw_gd := List.mem_filter.mpr ⟨List.mem_of_getElem? (i := 219) (by decide +kernel), by decide +kernel⟩
theorem qk_222 : Cond.instanceMethod yX4_init ∈ lw_gd := List.mem_filter.mpr ⟨List.mem_of_getElem? (i := 222) (by decide +kernel), by decide +kernel⟩
theorem qk_223 : Cond.code yX4_init cX4_init 1 (none) ∈ lw_gd := List.mem_filter.mpr ⟨List.mem_of_getElem? (i := 223) (by decide +kernel), by decide +kernel⟩
theorem qk_224 : Cond.methodLink RX4 3 ⟨"java/lang/Object", "<init>", "()V"⟩ ∈ lw_gd := List.mem_filter.mpr ⟨List.mem_of_getElem? (i := 224) (by decide +kernel), by decide +kernel⟩
theorem qk_225 : Cond.fieldLink RX4 9 "QuakeRehearsal$Script" "signs" "[C" ∈ lw_gd := List.mem_filter.mpr ⟨List.mem_of_getElem? (i := 225) (by decide +kernel), by decide +kernel⟩
theorem qk_226 : Cond.fieldLink RX4 15 "QuakeRehearsal$Script" "length" "I" ∈ lw_gd := List.mem_filter.mpr ⟨List.mem_of_getElem? (i := 226) (by decide +kernel), by decide +kernel⟩
theorem qk_227 : Cond.fieldLink RX5 205 "QuakeRehearsal$Script" "length" "I" ∈ lw_gd := List.mem_filter.mpr ⟨List.mem_of_getElem? (i := 227) (by decide +kernel), by decide +kernel⟩
theorem qk_228 : Cond.fieldLink RX4 19 "QuakeRehearsal$Script" "words" "[I" ∈ lw_gd := List.mem_filter.mpr ⟨List.mem_of_getElem? (i := 228) (by decide +kernel), by decide +kernel⟩
theorem qk_229 : Cond.fieldLink RX4 23 "QuakeRehearsal$Script" "firsts" "[I" ∈ lw_gd := List.mem_filter.mpr ⟨List.mem_of_getElem? (i := 229) (by decide +kernel), by decide +kernel⟩
theorem qk_230 : Cond.fieldLink RX4 26 "QuakeRehearsal$Script" "seconds" "[I" ∈ lw_gd := List.mem_filter.mpr ⟨List.mem_of_getElem? (i := 230) (by decide +kernel), by decide +kernel⟩
theorem qk_231 : Cond.fieldLink RX4 29 "QuakeRehearsal$Script" "orderCount" "I" ∈ lw_gd := List.mem_filter.mpr ⟨List.mem_of_getElem? (i := 231) (by decide +kernel), by decide +kernel⟩
theorem qk_232 : Cond.fieldLink RX5 223 "QuakeRehearsal$Script" "orderCount" "I" ∈ lw_gd := List.mem_filter.mpr ⟨List.mem_of_getElem? (i := 232) (by decide +kernel), by decide +kernel⟩
theorem qk_233 : Cond.fieldLink RX4 32 "QuakeRehearsal$Script" "offset" "I" ∈ lw_gd := List.mem_filter.mpr ⟨List.mem_of_getElem? (i := 233) (by decide +kernel), by decide +kernel⟩
theorem qk_250 : Cond.classLink RX5 36 "QuakeRehearsal$Line" ∈ lw_gd := List.mem_filter.mpr ⟨List.mem_of_getElem? (i := 250) (by decide +kernel), by decide +kernel⟩
theorem qk_253 : Cond.instanceMethod yX2_init ∈ lw_gd := List.mem_filter.mpr ⟨List.mem_of_getElem? (i := 253) (by decide +kernel), by decide +kernel⟩
theorem qk_254 : Cond.code yX2_init cX2_init 1 (none) ∈ lw_gd := List.mem_filter.mpr ⟨List.mem_of_getElem? (i := 254) (by decide +kernel), by decide +kernel⟩
theorem qk_255 : Cond.methodLink RX2 3 ⟨"java/lang/Object", "<init>", "()V"⟩ ∈ lw_gd := List.mem_filter.mpr ⟨List.mem_of_getElem? (i := 255) (by decide +kernel), by decide +kernel⟩
theorem qk_256 : Cond.fieldLink RX2 9 "QuakeRehearsal$Line" "signs" "[C" ∈ lw_gd := List.mem_filter.mpr ⟨List.mem_of_getElem? (i := 256) (by decide +kernel), by decide +kernel⟩
theorem qk_257 : Cond.fieldLink RX2 15 "QuakeRehearsal$Line" "length" "I" ∈ lw_gd := List.mem_filter.mpr ⟨List.mem_of_getElem? (i := 257) (by decide +kernel), by decide +kernel⟩
theorem qk_258 : Cond.fieldLink RX5 193 "QuakeRehearsal$Line" "length" "I" ∈ lw_gd := List.mem_filter.mpr ⟨List.mem_of_getElem? (i := 258) (by decide +kernel), by decide +kernel⟩
theorem qk_264 : Cond.fieldLink RX5 10 "QuakeRehearsal" "hall" "LQuakeRehearsal$Hall;" ∈ lw_gd := List.mem_filter.mpr ⟨List.mem_of_getElem? (i := 264) (by decide +kernel), by decide +kernel⟩
theorem qk_265 : Cond.fieldLink RX5 16 "QuakeRehearsal" "thought" "LQuakeRehearsal$Hall;" ∈ lw_gd := List.mem_filter.mpr ⟨List.mem_of_getElem? (i := 265) (by decide +kernel), by decide +kernel⟩
theorem qk_266 : Cond.fieldLink RX5 19 "QuakeRehearsal" "snapshot" "LQuakeRehearsal$Hall;" ∈ lw_gd := List.mem_filter.mpr ⟨List.mem_of_getElem? (i := 266) (by decide +kernel), by decide +kernel⟩
theorem qk_267 : Cond.fieldLink RX5 25 "QuakeRehearsal" "history" "LQuakeRehearsal$History;" ∈ lw_gd := List.mem_filter.mpr ⟨List.mem_of_getElem? (i := 267) (by decide +kernel), by decide +kernel⟩
theorem qk_268 : Cond.fieldLink RX5 32 "QuakeRehearsal" "script" "LQuakeRehearsal$Script;" ∈ lw_gd := List.mem_filter.mpr ⟨List.mem_of_getElem? (i := 268) (by decide +kernel), by decide +kernel⟩
theorem qk_269 : Cond.fieldLink RX5 39 "QuakeRehearsal" "written" "LQuakeRehearsal$Line;" ∈ lw_gd := List.mem_filter.mpr ⟨List.mem_of_getElem? (i := 269) (by decide +kernel), by decide +kernel⟩
theorem qk_270 : Cond.fieldLink RX5 43 "QuakeRehearsal" "hasSnapshot" "Z" ∈ lw_gd := List.mem_filter.mpr ⟨List.mem_of_getElem? (i := 270) (by decide +kernel), by decide +kernel⟩
theorem qk_271 : Cond.fieldLink RX5 47 "QuakeRehearsal" "errorPlace" "I" ∈ lw_gd := List.mem_filter.mpr ⟨List.mem_of_getElem? (i := 271) (by decide +kernel), by decide +kernel⟩
theorem qk_272 : Cond.fieldLink RX5 51 "QuakeRehearsal" "reason" "I" ∈ lw_gd := List.mem_filter.mpr ⟨List.mem_of_getElem? (i := 272) (by decide +kernel), by decide +kernel⟩
theorem qk_273 : Cond.fieldLink RX5 54 "QuakeRehearsal" "detail" "I" ∈ lw_gd := List.mem_filter.mpr ⟨List.mem_of_getElem? (i := 273) (by decide +kernel), by decide +kernel⟩
theorem qk_274 : Cond.fieldLink RX5 57 "QuakeRehearsal" "answer" "I" ∈ lw_gd := List.mem_filter.mpr ⟨List.mem_of_getElem? (i := 274) (by decide +kernel), by decide +kernel⟩
theorem qk_298 : Cond.methodLink "QuakeRehearsalLaw" 151 yX5_shock ∈ lw_gd := List.mem_filter.mpr ⟨List.mem_of_getElem? (i := 298) (by decide +kernel), by decide +kernel⟩
theorem qk_299 : Cond.instanceMethod yX5_shock ∈ lw_gd := List.mem_filter.mpr ⟨List.mem_of_getElem? (i := 299) (by decide +kernel), by decide +kernel⟩
theorem qk_300 : Cond.selects RX5 yX5_shock yX5_shock ∈ lw_gd := List.mem_filter.mpr ⟨List.mem_of_getElem? (i := 300) (by decide +kernel), by decide +kernel⟩
theorem qk_301 : Cond.code yX5_shock cX5_shock 1 (some .int) ∈ lw_gd := List.mem_filter.mpr ⟨List.mem_of_getElem? (i := 301) (by decide +kernel), by decide +kernel⟩
theorem qk_302 : Cond.methodLink RX5 64 yX5_change ∈ lw_gd := List.mem_filter.mpr ⟨List.mem_of_getElem? (i := 302) (by decide +kernel), by decide +kernel⟩
theorem qk_304 : Cond.instanceMethod yX5_change ∈ lw_gd := List.mem_filter.mpr ⟨List.mem_of_getElem? (i := 304) (by decide +kernel), by decide +kernel⟩
theorem qk_305 : Cond.code yX5_change cX5_change 5 (some .int) ∈ lw_gd := List.mem_filter.mpr ⟨List.mem_of_getElem? (i := 305) (by decide +kernel), by decide +kernel⟩
theorem qk_306 : Cond.methodLink RX5 220 yX1_note ∈ lw_gd := List.mem_filter.mpr ⟨List.mem_of_getElem? (i := 306) (by decide +kernel), by decide +kernel⟩
theorem qk_307 : Cond.instanceMethod yX1_note ∈ lw_gd := List.mem_filter.mpr ⟨List.mem_of_getElem? (i := 307) (by decide +kernel), by decide +kernel⟩
theorem qk_308 : Cond.selects RX1 yX1_note yX1_note ∈ lw_gd := List.mem_filter.mpr ⟨List.mem_of_getElem? (i := 308) (by decide +kernel), by decide +kernel⟩
theorem qk_309 : Cond.code yX1_note cX1_note 3 (none) ∈ lw_gd := List.mem_filter.mpr ⟨List.mem_of_getElem? (i := 309) (by decide +kernel), by decide +kernel⟩
theorem qk_310 : Cond.methodLink RX1 25 yX0_copyFrom ∈ lw_gd := List.mem_filter.mpr ⟨List.mem_of_getElem? (i := 310) (by decide +kernel), by decide +kernel⟩
theorem qk_311 : Cond.instanceMethod yX0_copyFrom ∈ lw_gd := List.mem_filter.mpr ⟨List.mem_of_getElem? (i := 311) (by decide +kernel), by decide +kernel⟩
theorem qk_312 : Cond.selects RX0 yX0_copyFrom yX0_copyFrom ∈ lw_gd := List.mem_filter.mpr ⟨List.mem_of_getElem? (i := 312) (by decide +kernel), by decide +kernel⟩
theorem qk_313 : Cond.code yX0_copyFrom cX0_copyFrom 3 (none) ∈ lw_gd := List.mem_filter.mpr ⟨List.mem_of_getElem? (i := 313) (by decide +kernel), by decide +kernel⟩
theorem qk_314 : Cond.methodLink RX0 58 yX0_propAt ∈ lw_gd := List.mem_filter.mpr ⟨List.mem_of_getElem? (i := 314) (by decide +kernel), by decide +kernel⟩
theorem qk_315 : Cond.instanceMethod yX0_propAt ∈ lw_gd := List.mem_filter.mpr ⟨List.mem_of_getElem? (i := 315) (by decide +kernel), by decide +kernel⟩
theorem qk_316 : Cond.selects RX0 yX0_propAt yX0_propAt ∈ lw_gd := List.mem_filter.mpr ⟨List.mem_of_getElem? (i := 316) (by decide +kernel), by decide +kernel⟩
theorem qk_317 : Cond.code yX0_propAt cX0_propAt 3 (some (.object "QuakeRehearsal$Prop")) ∈ lw_gd := List.mem_filter.mpr ⟨List.mem_of_getElem? (i := 317) (by decide +kernel), by decide +kernel⟩
theorem qk_318 : Cond.methodLink RX0 62 yX3_copyFrom ∈ lw_gd := List.mem_filter.mpr ⟨List.mem_of_getElem? (i := 318) (by decide +kernel), by decide +kernel⟩
theorem qk_319 : Cond.instanceMethod yX3_copyFrom ∈ lw_gd := List.mem_filter.mpr ⟨List.mem_of_getElem? (i := 319) (by decide +kernel), by decide +kernel⟩
theorem qk_320 : Cond.selects RX3 yX3_copyFrom yX3_copyFrom ∈ lw_gd := List.mem_filter.mpr ⟨List.mem_of_getElem? (i := 320) (by decide +kernel), by decide +kernel⟩
theorem qk_321 : Cond.code yX3_copyFrom cX3_copyFrom 2 (none) ∈ lw_gd := List.mem_filter.mpr ⟨List.mem_of_getElem? (i := 321) (by decide +kernel), by decide +kernel⟩
theorem qk_322 : Cond.methodLink RX5 235 yX5_tryOrder ∈ lw_gd := List.mem_filter.mpr ⟨List.mem_of_getElem? (i := 322) (by decide +kernel), by decide +kernel⟩
theorem qk_324 : Cond.instanceMethod yX5_tryOrder ∈ lw_gd := List.mem_filter.mpr ⟨List.mem_of_getElem? (i := 324) (by decide +kernel), by decide +kernel⟩
theorem qk_325 : Cond.code yX5_tryOrder cX5_tryOrder 4 (some .int) ∈ lw_gd := List.mem_filter.mpr ⟨List.mem_of_getElem? (i := 325) (by decide +kernel), by decide +kernel⟩
theorem qk_326 : Cond.methodLink RX5 311 yX5_tryPlacing ∈ lw_gd := List.mem_filter.mpr ⟨List.mem_of_getElem? (i := 326) (by decide +kernel), by decide +kernel⟩
theorem qk_328 : Cond.instanceMethod yX5_tryPlacing ∈ lw_gd := List.mem_filter.mpr ⟨List.mem_of_getElem? (i := 328) (by decide +kernel), by decide +kernel⟩
theorem qk_329 : Cond.code yX5_tryPlacing cX5_tryPlacing 5 (some .int) ∈ lw_gd := List.mem_filter.mpr ⟨List.mem_of_getElem? (i := 329) (by decide +kernel), by decide +kernel⟩
theorem qk_330 : Cond.methodLink RX5 135 yX5_isFloor ∈ lw_gd := List.mem_filter.mpr ⟨List.mem_of_getElem? (i := 330) (by decide +kernel), by decide +kernel⟩
theorem qk_331 : Cond.static yX5_isFloor ∈ lw_gd := List.mem_filter.mpr ⟨List.mem_of_getElem? (i := 331) (by decide +kernel), by decide +kernel⟩
theorem qk_332 : Cond.code yX5_isFloor cX5_isFloor 1 (some .boolean) ∈ lw_gd := List.mem_filter.mpr ⟨List.mem_of_getElem? (i := 332) (by decide +kernel), by decide +kernel⟩
theorem qk_333 : Cond.methodLink RX5 329 yX5_refuse ∈ lw_gd := List.mem_filter.mpr ⟨List.mem_of_getElem? (i := 333) (by decide +kernel), by decide +kernel⟩
theorem qk_335 : Cond.instanceMethod yX5_refuse ∈ lw_gd := List.mem_filter.mpr ⟨List.mem_of_getElem? (i := 335) (by decide +kernel), by decide +kernel⟩
theorem qk_336 : Cond.code yX5_refuse cX5_refuse 3 (some .int) ∈ lw_gd := List.mem_filter.mpr ⟨List.mem_of_getElem? (i := 336) (by decide +kernel), by decide +kernel⟩
theorem qk_337 : Cond.methodLink RX5 186 yX0_countOn ∈ lw_gd := List.mem_filter.mpr ⟨List.mem_of_getElem? (i := 337) (by decide +kernel), by decide +kernel⟩
theorem qk_338 : Cond.instanceMethod yX0_countOn ∈ lw_gd := List.mem_filter.mpr ⟨List.mem_of_getElem? (i := 338) (by decide +kernel), by decide +kernel⟩
theorem qk_339 : Cond.selects RX0 yX0_countOn yX0_countOn ∈ lw_gd := List.mem_filter.mpr ⟨List.mem_of_getElem? (i := 339) (by decide +kernel), by decide +kernel⟩
theorem qk_340 : Cond.code yX0_countOn cX0_countOn 6 (some .int) ∈ lw_gd := List.mem_filter.mpr ⟨List.mem_of_getElem? (i := 340) (by decide +kernel), by decide +kernel⟩
theorem qk_341 : Cond.methodLink RX5 335 yX0_placeProp ∈ lw_gd := List.mem_filter.mpr ⟨List.mem_of_getElem? (i := 341) (by decide +kernel), by decide +kernel⟩
theorem qk_342 : Cond.instanceMethod yX0_placeProp ∈ lw_gd := List.mem_filter.mpr ⟨List.mem_of_getElem? (i := 342) (by decide +kernel), by decide +kernel⟩
theorem qk_343 : Cond.selects RX0 yX0_placeProp yX0_placeProp ∈ lw_gd := List.mem_filter.mpr ⟨List.mem_of_getElem? (i := 343) (by decide +kernel), by decide +kernel⟩
theorem qk_344 : Cond.code yX0_placeProp cX0_placeProp 5 (some .int) ∈ lw_gd := List.mem_filter.mpr ⟨List.mem_of_getElem? (i := 344) (by decide +kernel), by decide +kernel⟩
theorem qk_345 : Cond.methodLink RX0 66 yX3_begin ∈ lw_gd := List.mem_filter.mpr ⟨List.mem_of_getElem? (i := 345) (by decide +kernel), by decide +kernel⟩
theorem qk_346 : Cond.instanceMethod yX3_begin ∈ lw_gd := List.mem_filter.mpr ⟨List.mem_of_getElem? (i := 346) (by decide +kernel), by decide +kernel⟩
theorem qk_347 : Cond.selects RX3 yX3_begin yX3_begin ∈ lw_gd := List.mem_filter.mpr ⟨List.mem_of_getElem? (i := 347) (by decide +kernel), by decide +kernel⟩
theorem qk_348 : Cond.code yX3_begin cX3_begin 4 (none) ∈ lw_gd := List.mem_filter.mpr ⟨List.mem_of_getElem? (i := 348) (by decide +kernel), by decide +kernel⟩
theorem qk_349 : Cond.methodLink RX5 323 yX5_answered ∈ lw_gd := List.mem_filter.mpr ⟨List.mem_of_getElem? (i := 349) (by decide +kernel), by decide +kernel⟩
theorem qk_351 : Cond.instanceMethod yX5_answered ∈ lw_gd := List.mem_filter.mpr ⟨List.mem_of_getElem? (i := 351) (by decide +kernel), by decide +kernel⟩
theorem qk_352 : Cond.code yX5_answered cX5_answered 2 (some .int) ∈ lw_gd := List.mem_filter.mpr ⟨List.mem_of_getElem? (i := 352) (by decide +kernel), by decide +kernel⟩
theorem qk_353 : Cond.methodLink RX5 314 yX5_tryTaking ∈ lw_gd := List.mem_filter.mpr ⟨List.mem_of_getElem? (i := 353) (by decide +kernel), by decide +kernel⟩
theorem qk_355 : Cond.instanceMethod yX5_tryTaking ∈ lw_gd := List.mem_filter.mpr ⟨List.mem_of_getElem? (i := 355) (by decide +kernel), by decide +kernel⟩
theorem qk_356 : Cond.code yX5_tryTaking cX5_tryTaking 2 (some .int) ∈ lw_gd := List.mem_filter.mpr ⟨List.mem_of_getElem? (i := 356) (by decide +kernel), by decide +kernel⟩
theorem qk_357 : Cond.methodLink RX5 338 yX0_removeProp ∈ lw_gd := List.mem_filter.mpr ⟨List.mem_of_getElem? (i := 357) (by decide +kernel), by decide +kernel⟩
theorem qk_358 : Cond.instanceMethod yX0_removeProp ∈ lw_gd := List.mem_filter.mpr ⟨List.mem_of_getElem? (i := 358) (by decide +kernel), by decide +kernel⟩
theorem qk_359 : Cond.selects RX0 yX0_removeProp yX0_removeProp ∈ lw_gd := List.mem_filter.mpr ⟨List.mem_of_getElem? (i := 359) (by decide +kernel), by decide +kernel⟩
theorem qk_360 : Cond.code yX0_removeProp cX0_removeProp 3 (some .int) ∈ lw_gd := List.mem_filter.mpr ⟨List.mem_of_getElem? (i := 360) (by decide +kernel), by decide +kernel⟩
theorem qk_361 : Cond.methodLink RX5 317 yX5_tryCueing ∈ lw_gd := List.mem_filter.mpr ⟨List.mem_of_getElem? (i := 361) (by decide +kernel), by decide +kernel⟩
theorem qk_363 : Cond.instanceMethod yX5_tryCueing ∈ lw_gd := List.mem_filter.mpr ⟨List.mem_of_getElem? (i := 363) (by decide +kernel), by decide +kernel⟩
theorem qk_364 : Cond.code yX5_tryCueing cX5_tryCueing 5 (some .int) ∈ lw_gd := List.mem_filter.mpr ⟨List.mem_of_getElem? (i := 364) (by decide +kernel), by decide +kernel⟩
theorem qk_365 : Cond.methodLink RX5 131 yX5_isStrength ∈ lw_gd := List.mem_filter.mpr ⟨List.mem_of_getElem? (i := 365) (by decide +kernel), by decide +kernel⟩
theorem qk_366 : Cond.static yX5_isStrength ∈ lw_gd := List.mem_filter.mpr ⟨List.mem_of_getElem? (i := 366) (by decide +kernel), by decide +kernel⟩
theorem qk_367 : Cond.code yX5_isStrength cX5_isStrength 1 (some .boolean) ∈ lw_gd := List.mem_filter.mpr ⟨List.mem_of_getElem? (i := 367) (by decide +kernel), by decide +kernel⟩
theorem qk_368 : Cond.methodLink RX5 178 yX0_propAt ∈ lw_gd := List.mem_filter.mpr ⟨List.mem_of_getElem? (i := 368) (by decide +kernel), by decide +kernel⟩
theorem qk_369 : Cond.methodLink RX5 320 yX5_trySetting ∈ lw_gd := List.mem_filter.mpr ⟨List.mem_of_getElem? (i := 369) (by decide +kernel), by decide +kernel⟩
theorem qk_371 : Cond.instanceMethod yX5_trySetting ∈ lw_gd := List.mem_filter.mpr ⟨List.mem_of_getElem? (i := 371) (by decide +kernel), by decide +kernel⟩
theorem qk_372 : Cond.code yX5_trySetting cX5_trySetting 3 (some .int) ∈ lw_gd := List.mem_filter.mpr ⟨List.mem_of_getElem? (i := 372) (by decide +kernel), by decide +kernel⟩
theorem qk_373 : Cond.methodLink RX5 175 yX0_performShock ∈ lw_gd := List.mem_filter.mpr ⟨List.mem_of_getElem? (i := 373) (by decide +kernel), by decide +kernel⟩
theorem qk_374 : Cond.instanceMethod yX0_performShock ∈ lw_gd := List.mem_filter.mpr ⟨List.mem_of_getElem? (i := 374) (by decide +kernel), by decide +kernel⟩
theorem qk_375 : Cond.selects RX0 yX0_performShock yX0_performShock ∈ lw_gd := List.mem_filter.mpr ⟨List.mem_of_getElem? (i := 375) (by decide +kernel), by decide +kernel⟩
theorem qk_376 : Cond.code yX0_performShock cX0_performShock 3 (some .int) ∈ lw_gd := List.mem_filter.mpr ⟨List.mem_of_getElem? (i := 376) (by decide +kernel), by decide +kernel⟩
theorem qk_377 : Cond.methodLink RX0 83 yX0_spread ∈ lw_gd := List.mem_filter.mpr ⟨List.mem_of_getElem? (i := 377) (by decide +kernel), by decide +kernel⟩
theorem qk_378 : Cond.instanceMethod yX0_spread ∈ lw_gd := List.mem_filter.mpr ⟨List.mem_of_getElem? (i := 378) (by decide +kernel), by decide +kernel⟩
theorem qk_379 : Cond.selects RX0 yX0_spread yX0_spread ∈ lw_gd := List.mem_filter.mpr ⟨List.mem_of_getElem? (i := 379) (by decide +kernel), by decide +kernel⟩
theorem qk_380 : Cond.code yX0_spread cX0_spread 4 (none) ∈ lw_gd := List.mem_filter.mpr ⟨List.mem_of_getElem? (i := 380) (by decide +kernel), by decide +kernel⟩
theorem qk_381 : Cond.methodLink RX0 95 yX0_findCats ∈ lw_gd := List.mem_filter.mpr ⟨List.mem_of_getElem? (i := 381) (by decide +kernel), by decide +kernel⟩
theorem qk_382 : Cond.instanceMethod yX0_findCats ∈ lw_gd := List.mem_filter.mpr ⟨List.mem_of_getElem? (i := 382) (by decide +kernel), by decide +kernel⟩
theorem qk_383 : Cond.selects RX0 yX0_findCats yX0_findCats ∈ lw_gd := List.mem_filter.mpr ⟨List.mem_of_getElem? (i := 383) (by decide +kernel), by decide +kernel⟩
theorem qk_384 : Cond.code yX0_findCats cX0_findCats 3 (none) ∈ lw_gd := List.mem_filter.mpr ⟨List.mem_of_getElem? (i := 384) (by decide +kernel), by decide +kernel⟩
theorem qk_386 : Cond.methodLink RX0 102 yX0_shakeCups ∈ lw_gd := List.mem_filter.mpr ⟨List.mem_of_getElem? (i := 386) (by decide +kernel), by decide +kernel⟩
theorem qk_387 : Cond.instanceMethod yX0_shakeCups ∈ lw_gd := List.mem_filter.mpr ⟨List.mem_of_getElem? (i := 387) (by decide +kernel), by decide +kernel⟩
theorem qk_388 : Cond.selects RX0 yX0_shakeCups yX0_shakeCups ∈ lw_gd := List.mem_filter.mpr ⟨List.mem_of_getElem? (i := 388) (by decide +kernel), by decide +kernel⟩
theorem qk_389 : Cond.code yX0_shakeCups cX0_shakeCups 3 (none) ∈ lw_gd := List.mem_filter.mpr ⟨List.mem_of_getElem? (i := 389) (by decide +kernel), by decide +kernel⟩
theorem qk_390 : Cond.methodLink RX0 87 yX0_reachOn ∈ lw_gd := List.mem_filter.mpr ⟨List.mem_of_getElem? (i := 390) (by decide +kernel), by decide +kernel⟩
theorem qk_391 : Cond.instanceMethod yX0_reachOn ∈ lw_gd := List.mem_filter.mpr ⟨List.mem_of_getElem? (i := 391) (by decide +kernel), by decide +kernel⟩
theorem qk_392 : Cond.selects RX0 yX0_reachOn yX0_reachOn ∈ lw_gd := List.mem_filter.mpr ⟨List.mem_of_getElem? (i := 392) (by decide +kernel), by decide +kernel⟩
theorem qk_393 : Cond.code yX0_reachOn cX0_reachOn 2 (some .int) ∈ lw_gd := List.mem_filter.mpr ⟨List.mem_of_getElem? (i := 393) (by decide +kernel), by decide +kernel⟩
theorem qk_394 : Cond.methodLink RX0 112 yX3_shakeCup ∈ lw_gd := List.mem_filter.mpr ⟨List.mem_of_getElem? (i := 394) (by decide +kernel), by decide +kernel⟩
theorem qk_395 : Cond.instanceMethod yX3_shakeCup ∈ lw_gd := List.mem_filter.mpr ⟨List.mem_of_getElem? (i := 395) (by decide +kernel), by decide +kernel⟩
theorem qk_396 : Cond.selects RX3 yX3_shakeCup yX3_shakeCup ∈ lw_gd := List.mem_filter.mpr ⟨List.mem_of_getElem? (i := 396) (by decide +kernel), by decide +kernel⟩
theorem qk_397 : Cond.code yX3_shakeCup cX3_shakeCup 2 (some .boolean) ∈ lw_gd := List.mem_filter.mpr ⟨List.mem_of_getElem? (i := 397) (by decide +kernel), by decide +kernel⟩
theorem qk_398 : Cond.methodLink RX0 115 yX0_noteBreakage ∈ lw_gd := List.mem_filter.mpr ⟨List.mem_of_getElem? (i := 398) (by decide +kernel), by decide +kernel⟩
theorem qk_399 : Cond.instanceMethod yX0_noteBreakage ∈ lw_gd := List.mem_filter.mpr ⟨List.mem_of_getElem? (i := 399) (by decide +kernel), by decide +kernel⟩
theorem qk_400 : Cond.selects RX0 yX0_noteBreakage yX0_noteBreakage ∈ lw_gd := List.mem_filter.mpr ⟨List.mem_of_getElem? (i := 400) (by decide +kernel), by decide +kernel⟩
theorem qk_401 : Cond.code yX0_noteBreakage cX0_noteBreakage 2 (none) ∈ lw_gd := List.mem_filter.mpr ⟨List.mem_of_getElem? (i := 401) (by decide +kernel), by decide +kernel⟩
theorem qk_402 : Cond.methodLink RX0 105 yX0_shakeLamps ∈ lw_gd := List.mem_filter.mpr ⟨List.mem_of_getElem? (i := 402) (by decide +kernel), by decide +kernel⟩
theorem qk_403 : Cond.instanceMethod yX0_shakeLamps ∈ lw_gd := List.mem_filter.mpr ⟨List.mem_of_getElem? (i := 403) (by decide +kernel), by decide +kernel⟩
theorem qk_404 : Cond.selects RX0 yX0_shakeLamps yX0_shakeLamps ∈ lw_gd := List.mem_filter.mpr ⟨List.mem_of_getElem? (i := 404) (by decide +kernel), by decide +kernel⟩
theorem qk_405 : Cond.code yX0_shakeLamps cX0_shakeLamps 4 (none) ∈ lw_gd := List.mem_filter.mpr ⟨List.mem_of_getElem? (i := 405) (by decide +kernel), by decide +kernel⟩
theorem qk_406 : Cond.methodLink RX0 118 yX3_shakeLamp ∈ lw_gd := List.mem_filter.mpr ⟨List.mem_of_getElem? (i := 406) (by decide +kernel), by decide +kernel⟩
theorem qk_407 : Cond.instanceMethod yX3_shakeLamp ∈ lw_gd := List.mem_filter.mpr ⟨List.mem_of_getElem? (i := 407) (by decide +kernel), by decide +kernel⟩
theorem qk_408 : Cond.selects RX3 yX3_shakeLamp yX3_shakeLamp ∈ lw_gd := List.mem_filter.mpr ⟨List.mem_of_getElem? (i := 408) (by decide +kernel), by decide +kernel⟩
theorem qk_409 : Cond.code yX3_shakeLamp cX3_shakeLamp 3 (some .boolean) ∈ lw_gd := List.mem_filter.mpr ⟨List.mem_of_getElem? (i := 409) (by decide +kernel), by decide +kernel⟩
theorem qk_410 : Cond.methodLink RX3 34 yX3_swingAfter ∈ lw_gd := List.mem_filter.mpr ⟨List.mem_of_getElem? (i := 410) (by decide +kernel), by decide +kernel⟩
theorem qk_411 : Cond.instanceMethod yX3_swingAfter ∈ lw_gd := List.mem_filter.mpr ⟨List.mem_of_getElem? (i := 411) (by decide +kernel), by decide +kernel⟩
theorem qk_412 : Cond.selects RX3 yX3_swingAfter yX3_swingAfter ∈ lw_gd := List.mem_filter.mpr ⟨List.mem_of_getElem? (i := 412) (by decide +kernel), by decide +kernel⟩
theorem qk_413 : Cond.code yX3_swingAfter cX3_swingAfter 4 (some .int) ∈ lw_gd := List.mem_filter.mpr ⟨List.mem_of_getElem? (i := 413) (by decide +kernel), by decide +kernel⟩
theorem qk_414 : Cond.methodLink RX0 108 yX0_askCats ∈ lw_gd := List.mem_filter.mpr ⟨List.mem_of_getElem? (i := 414) (by decide +kernel), by decide +kernel⟩
theorem qk_415 : Cond.instanceMethod yX0_askCats ∈ lw_gd := List.mem_filter.mpr ⟨List.mem_of_getElem? (i := 415) (by decide +kernel), by decide +kernel⟩
theorem qk_416 : Cond.selects RX0 yX0_askCats yX0_askCats ∈ lw_gd := List.mem_filter.mpr ⟨List.mem_of_getElem? (i := 416) (by decide +kernel), by decide +kernel⟩
theorem qk_417 : Cond.code yX0_askCats cX0_askCats 4 (some .int) ∈ lw_gd := List.mem_filter.mpr ⟨List.mem_of_getElem? (i := 417) (by decide +kernel), by decide +kernel⟩
theorem qk_418 : Cond.methodLink RX0 122 yX0_isFrightening ∈ lw_gd := List.mem_filter.mpr ⟨List.mem_of_getElem? (i := 418) (by decide +kernel), by decide +kernel⟩
theorem qk_419 : Cond.instanceMethod yX0_isFrightening ∈ lw_gd := List.mem_filter.mpr ⟨List.mem_of_getElem? (i := 419) (by decide +kernel), by decide +kernel⟩
theorem qk_420 : Cond.selects RX0 yX0_isFrightening yX0_isFrightening ∈ lw_gd := List.mem_filter.mpr ⟨List.mem_of_getElem? (i := 420) (by decide +kernel), by decide +kernel⟩
theorem qk_421 : Cond.code yX0_isFrightening cX0_isFrightening 2 (some .boolean) ∈ lw_gd := List.mem_filter.mpr ⟨List.mem_of_getElem? (i := 421) (by decide +kernel), by decide +kernel⟩
theorem qk_422 : Cond.methodLink RX0 125 yX3_judge ∈ lw_gd := List.mem_filter.mpr ⟨List.mem_of_getElem? (i := 422) (by decide +kernel), by decide +kernel⟩
theorem qk_423 : Cond.instanceMethod yX3_judge ∈ lw_gd := List.mem_filter.mpr ⟨List.mem_of_getElem? (i := 423) (by decide +kernel), by decide +kernel⟩
theorem qk_424 : Cond.selects RX3 yX3_judge yX3_judge ∈ lw_gd := List.mem_filter.mpr ⟨List.mem_of_getElem? (i := 424) (by decide +kernel), by decide +kernel⟩
theorem qk_425 : Cond.code yX3_judge cX3_judge 4 (some .int) ∈ lw_gd := List.mem_filter.mpr ⟨List.mem_of_getElem? (i := 425) (by decide +kernel), by decide +kernel⟩
theorem qk_426 : Cond.methodLink RX3 38 ⟨"java/lang/Math", "abs", "(I)I"⟩ ∈ lw_gd := List.mem_filter.mpr ⟨List.mem_of_getElem? (i := 426) (by decide +kernel), by decide +kernel⟩
theorem qk_427 : Cond.static ⟨"java/lang/Math", "abs", "(I)I"⟩ ∈ lw_gd := List.mem_filter.mpr ⟨List.mem_of_getElem? (i := 427) (by decide +kernel), by decide +kernel⟩
theorem qk_428 : Cond.code Lib.Math.abs.name Lib.Math.abs.code 1 (some .int) ∈ lw_gd := List.mem_filter.mpr ⟨List.mem_of_getElem? (i := 428) (by decide +kernel), by decide +kernel⟩
theorem qk_429 : Cond.methodLink RX5 326 yX5_tryAdding ∈ lw_gd := List.mem_filter.mpr ⟨List.mem_of_getElem? (i := 429) (by decide +kernel), by decide +kernel⟩
theorem qk_431 : Cond.instanceMethod yX5_tryAdding ∈ lw_gd := List.mem_filter.mpr ⟨List.mem_of_getElem? (i := 431) (by decide +kernel), by decide +kernel⟩
theorem qk_432 : Cond.code yX5_tryAdding cX5_tryAdding 2 (some .int) ∈ lw_gd := List.mem_filter.mpr ⟨List.mem_of_getElem? (i := 432) (by decide +kernel), by decide +kernel⟩
theorem qk_433 : Cond.methodLink RX5 341 yX0_plan ∈ lw_gd := List.mem_filter.mpr ⟨List.mem_of_getElem? (i := 433) (by decide +kernel), by decide +kernel⟩
theorem qk_434 : Cond.instanceMethod yX0_plan ∈ lw_gd := List.mem_filter.mpr ⟨List.mem_of_getElem? (i := 434) (by decide +kernel), by decide +kernel⟩
theorem qk_435 : Cond.selects RX0 yX0_plan yX0_plan ∈ lw_gd := List.mem_filter.mpr ⟨List.mem_of_getElem? (i := 435) (by decide +kernel), by decide +kernel⟩
theorem qk_436 : Cond.code yX0_plan cX0_plan 2 (some .int) ∈ lw_gd := List.mem_filter.mpr ⟨List.mem_of_getElem? (i := 436) (by decide +kernel), by decide +kernel⟩
theorem qk_437 : Cond.methodLink RX5 163 yX0_performProgramme ∈ lw_gd := List.mem_filter.mpr ⟨List.mem_of_getElem? (i := 437) (by decide +kernel), by decide +kernel⟩
theorem qk_438 : Cond.instanceMethod yX0_performProgramme ∈ lw_gd := List.mem_filter.mpr ⟨List.mem_of_getElem? (i := 438) (by decide +kernel), by decide +kernel⟩
theorem qk_439 : Cond.selects RX0 yX0_performProgramme yX0_performProgramme ∈ lw_gd := List.mem_filter.mpr ⟨List.mem_of_getElem? (i := 439) (by decide +kernel), by decide +kernel⟩
theorem qk_440 : Cond.code yX0_performProgramme cX0_performProgramme 6 (some .int) ∈ lw_gd := List.mem_filter.mpr ⟨List.mem_of_getElem? (i := 440) (by decide +kernel), by decide +kernel⟩
theorem qk_441 : Cond.methodLink RX0 129 yX0_countOf ∈ lw_gd := List.mem_filter.mpr ⟨List.mem_of_getElem? (i := 441) (by decide +kernel), by decide +kernel⟩
theorem qk_442 : Cond.instanceMethod yX0_countOf ∈ lw_gd := List.mem_filter.mpr ⟨List.mem_of_getElem? (i := 442) (by decide +kernel), by decide +kernel⟩
theorem qk_443 : Cond.selects RX0 yX0_countOf yX0_countOf ∈ lw_gd := List.mem_filter.mpr ⟨List.mem_of_getElem? (i := 443) (by decide +kernel), by decide +kernel⟩
theorem qk_444 : Cond.code yX0_countOf cX0_countOf 4 (some .int) ∈ lw_gd := List.mem_filter.mpr ⟨List.mem_of_getElem? (i := 444) (by decide +kernel), by decide +kernel⟩
theorem qk_445 : Cond.methodLink RX0 132 yX0_plannedAt ∈ lw_gd := List.mem_filter.mpr ⟨List.mem_of_getElem? (i := 445) (by decide +kernel), by decide +kernel⟩
theorem qk_446 : Cond.instanceMethod yX0_plannedAt ∈ lw_gd := List.mem_filter.mpr ⟨List.mem_of_getElem? (i := 446) (by decide +kernel), by decide +kernel⟩
theorem qk_447 : Cond.selects RX0 yX0_plannedAt yX0_plannedAt ∈ lw_gd := List.mem_filter.mpr ⟨List.mem_of_getElem? (i := 447) (by decide +kernel), by decide +kernel⟩
theorem qk_448 : Cond.code yX0_plannedAt cX0_plannedAt 2 (some .int) ∈ lw_gd := List.mem_filter.mpr ⟨List.mem_of_getElem? (i := 448) (by decide +kernel), by decide +kernel⟩
theorem qk_449 : Cond.methodLink RX0 135 yX0_performShock ∈ lw_gd := List.mem_filter.mpr ⟨List.mem_of_getElem? (i := 449) (by decide +kernel), by decide +kernel⟩
theorem qk_450 : Cond.methodLink RX5 332 yX0_calm ∈ lw_gd := List.mem_filter.mpr ⟨List.mem_of_getElem? (i := 450) (by decide +kernel), by decide +kernel⟩
theorem qk_451 : Cond.instanceMethod yX0_calm ∈ lw_gd := List.mem_filter.mpr ⟨List.mem_of_getElem? (i := 451) (by decide +kernel), by decide +kernel⟩
theorem qk_452 : Cond.selects RX0 yX0_calm yX0_calm ∈ lw_gd := List.mem_filter.mpr ⟨List.mem_of_getElem? (i := 452) (by decide +kernel), by decide +kernel⟩
theorem qk_453 : Cond.code yX0_calm cX0_calm 4 (some .int) ∈ lw_gd := List.mem_filter.mpr ⟨List.mem_of_getElem? (i := 453) (by decide +kernel), by decide +kernel⟩
theorem qk_454 : Cond.methodLink RX5 238 yX1_keepNote ∈ lw_gd := List.mem_filter.mpr ⟨List.mem_of_getElem? (i := 454) (by decide +kernel), by decide +kernel⟩
theorem qk_455 : Cond.instanceMethod yX1_keepNote ∈ lw_gd := List.mem_filter.mpr ⟨List.mem_of_getElem? (i := 455) (by decide +kernel), by decide +kernel⟩
theorem qk_456 : Cond.selects RX1 yX1_keepNote yX1_keepNote ∈ lw_gd := List.mem_filter.mpr ⟨List.mem_of_getElem? (i := 456) (by decide +kernel), by decide +kernel⟩
theorem qk_457 : Cond.code yX1_keepNote cX1_keepNote 1 (none) ∈ lw_gd := List.mem_filter.mpr ⟨List.mem_of_getElem? (i := 457) (by decide +kernel), by decide +kernel⟩
theorem qk_458 : Cond.methodLink "QuakeRehearsalLaw" 162 yX5_quiet ∈ lw_gd := List.mem_filter.mpr ⟨List.mem_of_getElem? (i := 458) (by decide +kernel), by decide +kernel⟩
theorem qk_459 : Cond.instanceMethod yX5_quiet ∈ lw_gd := List.mem_filter.mpr ⟨List.mem_of_getElem? (i := 459) (by decide +kernel), by decide +kernel⟩
theorem qk_460 : Cond.selects RX5 yX5_quiet yX5_quiet ∈ lw_gd := List.mem_filter.mpr ⟨List.mem_of_getElem? (i := 460) (by decide +kernel), by decide +kernel⟩
theorem qk_461 : Cond.code yX5_quiet cX5_quiet 1 (some .int) ∈ lw_gd := List.mem_filter.mpr ⟨List.mem_of_getElem? (i := 461) (by decide +kernel), by decide +kernel⟩
theorem qk_462 : Cond.methodLink "QuakeRehearsalLaw" 183 yX5_programmeBreaks ∈ lw_gd := List.mem_filter.mpr ⟨List.mem_of_getElem? (i := 462) (by decide +kernel), by decide +kernel⟩
theorem qk_463 : Cond.instanceMethod yX5_programmeBreaks ∈ lw_gd := List.mem_filter.mpr ⟨List.mem_of_getElem? (i := 463) (by decide +kernel), by decide +kernel⟩
theorem qk_464 : Cond.selects RX5 yX5_programmeBreaks yX5_programmeBreaks ∈ lw_gd := List.mem_filter.mpr ⟨List.mem_of_getElem? (i := 464) (by decide +kernel), by decide +kernel⟩
theorem qk_465 : Cond.code yX5_programmeBreaks cX5_programmeBreaks 1 (some .int) ∈ lw_gd := List.mem_filter.mpr ⟨List.mem_of_getElem? (i := 465) (by decide +kernel), by decide +kernel⟩
theorem qk_466 : Cond.methodLink RX5 159 yX0_copyFrom ∈ lw_gd := List.mem_filter.mpr ⟨List.mem_of_getElem? (i := 466) (by decide +kernel), by decide +kernel⟩
theorem qk_467 : Cond.methodLink "QuakeRehearsalLaw" 187 yX5_best ∈ lw_gd := List.mem_filter.mpr ⟨List.mem_of_getElem? (i := 467) (by decide +kernel), by decide +kernel⟩
theorem qk_468 : Cond.instanceMethod yX5_best ∈ lw_gd := List.mem_filter.mpr ⟨List.mem_of_getElem? (i := 468) (by decide +kernel), by decide +kernel⟩
theorem qk_469 : Cond.selects RX5 yX5_best yX5_best ∈ lw_gd := List.mem_filter.mpr ⟨List.mem_of_getElem? (i := 469) (by decide +kernel), by decide +kernel⟩
theorem qk_470 : Cond.code yX5_best cX5_best 5 (some .int) ∈ lw_gd := List.mem_filter.mpr ⟨List.mem_of_getElem? (i := 470) (by decide +kernel), by decide +kernel⟩
theorem qk_471 : Cond.methodLink RX5 150 yX5_marksInThought ∈ lw_gd := List.mem_filter.mpr ⟨List.mem_of_getElem? (i := 471) (by decide +kernel), by decide +kernel⟩
theorem qk_473 : Cond.instanceMethod yX5_marksInThought ∈ lw_gd := List.mem_filter.mpr ⟨List.mem_of_getElem? (i := 473) (by decide +kernel), by decide +kernel⟩
theorem qk_474 : Cond.code yX5_marksInThought cX5_marksInThought 2 (some .int) ∈ lw_gd := List.mem_filter.mpr ⟨List.mem_of_getElem? (i := 474) (by decide +kernel), by decide +kernel⟩
theorem qk_475 : Cond.methodLink "QuakeRehearsalLaw" 215 yX5_programmeLine ∈ lw_gd := List.mem_filter.mpr ⟨List.mem_of_getElem? (i := 475) (by decide +kernel), by decide +kernel⟩
theorem qk_476 : Cond.instanceMethod yX5_programmeLine ∈ lw_gd := List.mem_filter.mpr ⟨List.mem_of_getElem? (i := 476) (by decide +kernel), by decide +kernel⟩
theorem qk_477 : Cond.selects RX5 yX5_programmeLine yX5_programmeLine ∈ lw_gd := List.mem_filter.mpr ⟨List.mem_of_getElem? (i := 477) (by decide +kernel), by decide +kernel⟩
theorem qk_478 : Cond.code yX5_programmeLine cX5_programmeLine 1 (some .int) ∈ lw_gd := List.mem_filter.mpr ⟨List.mem_of_getElem? (i := 478) (by decide +kernel), by decide +kernel⟩
theorem qk_479 : Cond.methodLink RX5 196 yX2_writeProgramme ∈ lw_gd := List.mem_filter.mpr ⟨List.mem_of_getElem? (i := 479) (by decide +kernel), by decide +kernel⟩
theorem qk_480 : Cond.instanceMethod yX2_writeProgramme ∈ lw_gd := List.mem_filter.mpr ⟨List.mem_of_getElem? (i := 480) (by decide +kernel), by decide +kernel⟩
theorem qk_481 : Cond.selects RX2 yX2_writeProgramme yX2_writeProgramme ∈ lw_gd := List.mem_filter.mpr ⟨List.mem_of_getElem? (i := 481) (by decide +kernel), by decide +kernel⟩
theorem qk_482 : Cond.code yX2_writeProgramme cX2_writeProgramme 3 (none) ∈ lw_gd := List.mem_filter.mpr ⟨List.mem_of_getElem? (i := 482) (by decide +kernel), by decide +kernel⟩
theorem qk_483 : Cond.methodLink RX2 53 yX0_plannedAt ∈ lw_gd := List.mem_filter.mpr ⟨List.mem_of_getElem? (i := 483) (by decide +kernel), by decide +kernel⟩
theorem qk_484 : Cond.methodLink RX2 31 yX2_putNumber ∈ lw_gd := List.mem_filter.mpr ⟨List.mem_of_getElem? (i := 484) (by decide +kernel), by decide +kernel⟩
theorem qk_485 : Cond.instanceMethod yX2_putNumber ∈ lw_gd := List.mem_filter.mpr ⟨List.mem_of_getElem? (i := 485) (by decide +kernel), by decide +kernel⟩
theorem qk_486 : Cond.selects RX2 yX2_putNumber yX2_putNumber ∈ lw_gd := List.mem_filter.mpr ⟨List.mem_of_getElem? (i := 486) (by decide +kernel), by decide +kernel⟩
theorem qk_487 : Cond.code yX2_putNumber cX2_putNumber 2 (none) ∈ lw_gd := List.mem_filter.mpr ⟨List.mem_of_getElem? (i := 487) (by decide +kernel), by decide +kernel⟩
theorem qk_488 : Cond.methodLink RX2 19 yX2_put ∈ lw_gd := List.mem_filter.mpr ⟨List.mem_of_getElem? (i := 488) (by decide +kernel), by decide +kernel⟩
theorem qk_489 : Cond.instanceMethod yX2_put ∈ lw_gd := List.mem_filter.mpr ⟨List.mem_of_getElem? (i := 489) (by decide +kernel), by decide +kernel⟩
theorem qk_490 : Cond.selects RX2 yX2_put yX2_put ∈ lw_gd := List.mem_filter.mpr ⟨List.mem_of_getElem? (i := 490) (by decide +kernel), by decide +kernel⟩
theorem qk_491 : Cond.code yX2_put cX2_put 2 (none) ∈ lw_gd := List.mem_filter.mpr ⟨List.mem_of_getElem? (i := 491) (by decide +kernel), by decide +kernel⟩
theorem qk_492 : Cond.methodLink "QuakeRehearsalLaw" 229 yX5_errorPosition ∈ lw_gd := List.mem_filter.mpr ⟨List.mem_of_getElem? (i := 492) (by decide +kernel), by decide +kernel⟩
theorem qk_493 : Cond.instanceMethod yX5_errorPosition ∈ lw_gd := List.mem_filter.mpr ⟨List.mem_of_getElem? (i := 493) (by decide +kernel), by decide +kernel⟩
theorem qk_494 : Cond.selects RX5 yX5_errorPosition yX5_errorPosition ∈ lw_gd := List.mem_filter.mpr ⟨List.mem_of_getElem? (i := 494) (by decide +kernel), by decide +kernel⟩
theorem qk_495 : Cond.code yX5_errorPosition cX5_errorPosition 1 (some .int) ∈ lw_gd := List.mem_filter.mpr ⟨List.mem_of_getElem? (i := 495) (by decide +kernel), by decide +kernel⟩
theorem qk_496 : Cond.methodLink "QuakeRehearsalLaw" 240 yX5_isWell ∈ lw_gd := List.mem_filter.mpr ⟨List.mem_of_getElem? (i := 496) (by decide +kernel), by decide +kernel⟩
theorem qk_497 : Cond.instanceMethod yX5_isWell ∈ lw_gd := List.mem_filter.mpr ⟨List.mem_of_getElem? (i := 497) (by decide +kernel), by decide +kernel⟩
theorem qk_498 : Cond.selects RX5 yX5_isWell yX5_isWell ∈ lw_gd := List.mem_filter.mpr ⟨List.mem_of_getElem? (i := 498) (by decide +kernel), by decide +kernel⟩
theorem qk_499 : Cond.code yX5_isWell cX5_isWell 1 (some .boolean) ∈ lw_gd := List.mem_filter.mpr ⟨List.mem_of_getElem? (i := 499) (by decide +kernel), by decide +kernel⟩
theorem qk_500 : Cond.methodLink RX5 273 yX5_isReachAlike ∈ lw_gd := List.mem_filter.mpr ⟨List.mem_of_getElem? (i := 500) (by decide +kernel), by decide +kernel⟩
theorem qk_502 : Cond.instanceMethod yX5_isReachAlike ∈ lw_gd := List.mem_filter.mpr ⟨List.mem_of_getElem? (i := 502) (by decide +kernel), by decide +kernel⟩
theorem qk_503 : Cond.code yX5_isReachAlike cX5_isReachAlike 3 (some .boolean) ∈ lw_gd := List.mem_filter.mpr ⟨List.mem_of_getElem? (i := 503) (by decide +kernel), by decide +kernel⟩
theorem qk_504 : Cond.methodLink RX5 143 yX0_reachFloorByFloor ∈ lw_gd := List.mem_filter.mpr ⟨List.mem_of_getElem? (i := 504) (by decide +kernel), by decide +kernel⟩
theorem qk_505 : Cond.instanceMethod yX0_reachFloorByFloor ∈ lw_gd := List.mem_filter.mpr ⟨List.mem_of_getElem? (i := 505) (by decide +kernel), by decide +kernel⟩
theorem qk_506 : Cond.selects RX0 yX0_reachFloorByFloor yX0_reachFloorByFloor ∈ lw_gd := List.mem_filter.mpr ⟨List.mem_of_getElem? (i := 506) (by decide +kernel), by decide +kernel⟩
theorem qk_507 : Cond.code yX0_reachFloorByFloor cX0_reachFloorByFloor 3 (some .int) ∈ lw_gd := List.mem_filter.mpr ⟨List.mem_of_getElem? (i := 507) (by decide +kernel), by decide +kernel⟩
theorem qk_508 : Cond.methodLink RX5 140 yX0_reachAgain ∈ lw_gd := List.mem_filter.mpr ⟨List.mem_of_getElem? (i := 508) (by decide +kernel), by decide +kernel⟩
theorem qk_509 : Cond.instanceMethod yX0_reachAgain ∈ lw_gd := List.mem_filter.mpr ⟨List.mem_of_getElem? (i := 509) (by decide +kernel), by decide +kernel⟩
theorem qk_510 : Cond.selects RX0 yX0_reachAgain yX0_reachAgain ∈ lw_gd := List.mem_filter.mpr ⟨List.mem_of_getElem? (i := 510) (by decide +kernel), by decide +kernel⟩
theorem qk_511 : Cond.code yX0_reachAgain cX0_reachAgain 5 (some .int) ∈ lw_gd := List.mem_filter.mpr ⟨List.mem_of_getElem? (i := 511) (by decide +kernel), by decide +kernel⟩
theorem qk_512 : Cond.methodLink RX0 91 yX0_countOn ∈ lw_gd := List.mem_filter.mpr ⟨List.mem_of_getElem? (i := 512) (by decide +kernel), by decide +kernel⟩
theorem qk_513 : Cond.methodLink RX5 277 yX5_areBreakagesAlike ∈ lw_gd := List.mem_filter.mpr ⟨List.mem_of_getElem? (i := 513) (by decide +kernel), by decide +kernel⟩
theorem qk_515 : Cond.instanceMethod yX5_areBreakagesAlike ∈ lw_gd := List.mem_filter.mpr ⟨List.mem_of_getElem? (i := 515) (by decide +kernel), by decide +kernel⟩
theorem qk_516 : Cond.code yX5_areBreakagesAlike cX5_areBreakagesAlike 2 (some .boolean) ∈ lw_gd := List.mem_filter.mpr ⟨List.mem_of_getElem? (i := 516) (by decide +kernel), by decide +kernel⟩
theorem qk_517 : Cond.methodLink RX5 156 yX5_breakagesInThought ∈ lw_gd := List.mem_filter.mpr ⟨List.mem_of_getElem? (i := 517) (by decide +kernel), by decide +kernel⟩
theorem qk_519 : Cond.instanceMethod yX5_breakagesInThought ∈ lw_gd := List.mem_filter.mpr ⟨List.mem_of_getElem? (i := 519) (by decide +kernel), by decide +kernel⟩
theorem qk_520 : Cond.code yX5_breakagesInThought cX5_breakagesInThought 2 (some .int) ∈ lw_gd := List.mem_filter.mpr ⟨List.mem_of_getElem? (i := 520) (by decide +kernel), by decide +kernel⟩
theorem qk_521 : Cond.methodLink RX5 153 yX0_breakagesPropByProp ∈ lw_gd := List.mem_filter.mpr ⟨List.mem_of_getElem? (i := 521) (by decide +kernel), by decide +kernel⟩
theorem qk_522 : Cond.instanceMethod yX0_breakagesPropByProp ∈ lw_gd := List.mem_filter.mpr ⟨List.mem_of_getElem? (i := 522) (by decide +kernel), by decide +kernel⟩
theorem qk_523 : Cond.selects RX0 yX0_breakagesPropByProp yX0_breakagesPropByProp ∈ lw_gd := List.mem_filter.mpr ⟨List.mem_of_getElem? (i := 523) (by decide +kernel), by decide +kernel⟩
theorem qk_524 : Cond.code yX0_breakagesPropByProp cX0_breakagesPropByProp 5 (some .int) ∈ lw_gd := List.mem_filter.mpr ⟨List.mem_of_getElem? (i := 524) (by decide +kernel), by decide +kernel⟩
theorem qk_525 : Cond.methodLink RX0 141 yX0_reachAgain ∈ lw_gd := List.mem_filter.mpr ⟨List.mem_of_getElem? (i := 525) (by decide +kernel), by decide +kernel⟩
theorem qk_526 : Cond.methodLink RX0 144 yX3_wouldBreakBy ∈ lw_gd := List.mem_filter.mpr ⟨List.mem_of_getElem? (i := 526) (by decide +kernel), by decide +kernel⟩
theorem qk_527 : Cond.instanceMethod yX3_wouldBreakBy ∈ lw_gd := List.mem_filter.mpr ⟨List.mem_of_getElem? (i := 527) (by decide +kernel), by decide +kernel⟩
theorem qk_528 : Cond.selects RX3 yX3_wouldBreakBy yX3_wouldBreakBy ∈ lw_gd := List.mem_filter.mpr ⟨List.mem_of_getElem? (i := 528) (by decide +kernel), by decide +kernel⟩
theorem qk_529 : Cond.code yX3_wouldBreakBy cX3_wouldBreakBy 3 (some .boolean) ∈ lw_gd := List.mem_filter.mpr ⟨List.mem_of_getElem? (i := 529) (by decide +kernel), by decide +kernel⟩
theorem qk_530 : Cond.methodLink RX5 280 yX0_isDamageRight ∈ lw_gd := List.mem_filter.mpr ⟨List.mem_of_getElem? (i := 530) (by decide +kernel), by decide +kernel⟩
theorem qk_531 : Cond.instanceMethod yX0_isDamageRight ∈ lw_gd := List.mem_filter.mpr ⟨List.mem_of_getElem? (i := 531) (by decide +kernel), by decide +kernel⟩
theorem qk_532 : Cond.selects RX0 yX0_isDamageRight yX0_isDamageRight ∈ lw_gd := List.mem_filter.mpr ⟨List.mem_of_getElem? (i := 532) (by decide +kernel), by decide +kernel⟩
theorem qk_533 : Cond.code yX0_isDamageRight cX0_isDamageRight 2 (some .boolean) ∈ lw_gd := List.mem_filter.mpr ⟨List.mem_of_getElem? (i := 533) (by decide +kernel), by decide +kernel⟩
theorem qk_534 : Cond.methodLink RX0 147 yX3_isDamageRight ∈ lw_gd := List.mem_filter.mpr ⟨List.mem_of_getElem? (i := 534) (by decide +kernel), by decide +kernel⟩
theorem qk_535 : Cond.instanceMethod yX3_isDamageRight ∈ lw_gd := List.mem_filter.mpr ⟨List.mem_of_getElem? (i := 535) (by decide +kernel), by decide +kernel⟩
theorem qk_536 : Cond.selects RX3 yX3_isDamageRight yX3_isDamageRight ∈ lw_gd := List.mem_filter.mpr ⟨List.mem_of_getElem? (i := 536) (by decide +kernel), by decide +kernel⟩
theorem qk_537 : Cond.code yX3_isDamageRight cX3_isDamageRight 1 (some .boolean) ∈ lw_gd := List.mem_filter.mpr ⟨List.mem_of_getElem? (i := 537) (by decide +kernel), by decide +kernel⟩
theorem qk_538 : Cond.methodLink "QuakeRehearsalLaw" 255 yX5_save ∈ lw_gd := List.mem_filter.mpr ⟨List.mem_of_getElem? (i := 538) (by decide +kernel), by decide +kernel⟩
theorem qk_539 : Cond.instanceMethod yX5_save ∈ lw_gd := List.mem_filter.mpr ⟨List.mem_of_getElem? (i := 539) (by decide +kernel), by decide +kernel⟩
theorem qk_540 : Cond.selects RX5 yX5_save yX5_save ∈ lw_gd := List.mem_filter.mpr ⟨List.mem_of_getElem? (i := 540) (by decide +kernel), by decide +kernel⟩
theorem qk_541 : Cond.code yX5_save cX5_save 1 (some .int) ∈ lw_gd := List.mem_filter.mpr ⟨List.mem_of_getElem? (i := 541) (by decide +kernel), by decide +kernel⟩
theorem qk_542 : Cond.methodLink "QuakeRehearsalLaw" 126 ⟨"QuakeRehearsalLaw", "cup", "(LQuakeRehearsal;II[J)I"⟩ ∈ lw_gd := List.mem_filter.mpr ⟨List.mem_of_getElem? (i := 542) (by decide +kernel), by decide +kernel⟩
theorem qk_543 : Cond.static ⟨"QuakeRehearsalLaw", "cup", "(LQuakeRehearsal;II[J)I"⟩ ∈ lw_gd := List.mem_filter.mpr ⟨List.mem_of_getElem? (i := 543) (by decide +kernel), by decide +kernel⟩
theorem qk_545 : Cond.classLink "QuakeRehearsalLaw" 13 "java/lang/IllegalArgumentException" ∈ lw_gd := List.mem_filter.mpr ⟨List.mem_of_getElem? (i := 545) (by decide +kernel), by decide +kernel⟩
theorem qk_546 : Cond.classLink "QuakeRehearsalLaw" 15 "java/lang/UnsupportedOperationException" ∈ lw_gd := List.mem_filter.mpr ⟨List.mem_of_getElem? (i := 546) (by decide +kernel), by decide +kernel⟩
theorem qk_547 : Cond.methodLink "QuakeRehearsalLaw" 7 yX5_cup ∈ lw_gd := List.mem_filter.mpr ⟨List.mem_of_getElem? (i := 547) (by decide +kernel), by decide +kernel⟩
theorem qk_548 : Cond.instanceMethod yX5_cup ∈ lw_gd := List.mem_filter.mpr ⟨List.mem_of_getElem? (i := 548) (by decide +kernel), by decide +kernel⟩
theorem qk_549 : Cond.selects RX5 yX5_cup yX5_cup ∈ lw_gd := List.mem_filter.mpr ⟨List.mem_of_getElem? (i := 549) (by decide +kernel), by decide +kernel⟩
theorem qk_550 : Cond.code yX5_cup cX5_cup 3 (some .int) ∈ lw_gd := List.mem_filter.mpr ⟨List.mem_of_getElem? (i := 550) (by decide +kernel), by decide +kernel⟩
theorem qk_551 : Cond.methodLink RX5 60 yX5_placed ∈ lw_gd := List.mem_filter.mpr ⟨List.mem_of_getElem? (i := 551) (by decide +kernel), by decide +kernel⟩
theorem qk_553 : Cond.instanceMethod yX5_placed ∈ lw_gd := List.mem_filter.mpr ⟨List.mem_of_getElem? (i := 553) (by decide +kernel), by decide +kernel⟩
theorem qk_554 : Cond.code yX5_placed cX5_placed 5 (some .int) ∈ lw_gd := List.mem_filter.mpr ⟨List.mem_of_getElem? (i := 554) (by decide +kernel), by decide +kernel⟩
theorem qk_555 : Cond.classLink RX5 74 "java/lang/IllegalArgumentException" ∈ lw_gd := List.mem_filter.mpr ⟨List.mem_of_getElem? (i := 555) (by decide +kernel), by decide +kernel⟩
theorem qk_564 : Cond.selects "java/lang/IllegalArgumentException" ⟨"java/lang/Throwable", "fillInStackTrace", "(I)Ljava/lang/Throwable;"⟩ ⟨"java/lang/Throwable", "fillInStackTrace", "(I)Ljava/lang/Throwable;"⟩ ∈ lw_gd := List.mem_filter.mpr ⟨List.mem_of_getElem? (i := 564) (by decide +kernel), by decide +kernel⟩
theorem qk_565 : Cond.selects "java/lang/IllegalArgumentException" ⟨"java/lang/Throwable", "fillInStackTrace", "()Ljava/lang/Throwable;"⟩ ⟨"java/lang/Throwable", "fillInStackTrace", "()Ljava/lang/Throwable;"⟩ ∈ lw_gd := List.mem_filter.mpr ⟨List.mem_of_getElem? (i := 565) (by decide +kernel), by decide +kernel⟩
theorem qk_578 : Cond.instanceMethod ⟨"java/lang/Throwable", "<init>", "()V"⟩ ∈ lw_gd := List.mem_filter.mpr ⟨List.mem_of_getElem? (i := 578) (by decide +kernel), by decide +kernel⟩
theorem qk_586 : Cond.instanceMethod ⟨"java/lang/Throwable", "fillInStackTrace", "()Ljava/lang/Throwable;"⟩ ∈ lw_gd := List.mem_filter.mpr ⟨List.mem_of_getElem? (i := 586) (by decide +kernel), by decide +kernel⟩
theorem qk_588 : Cond.selects "java/lang/ArithmeticException" ⟨"java/lang/Throwable", "fillInStackTrace", "()Ljava/lang/Throwable;"⟩ ⟨"java/lang/Throwable", "fillInStackTrace", "()Ljava/lang/Throwable;"⟩ ∈ lw_gd := List.mem_filter.mpr ⟨List.mem_of_getElem? (i := 588) (by decide +kernel), by decide +kernel⟩
theorem qk_589 : Cond.selects "java/lang/ArrayIndexOutOfBoundsException" ⟨"java/lang/Throwable", "fillInStackTrace", "()Ljava/lang/Throwable;"⟩ ⟨"java/lang/Throwable", "fillInStackTrace", "()Ljava/lang/Throwable;"⟩ ∈ lw_gd := List.mem_filter.mpr ⟨List.mem_of_getElem? (i := 589) (by decide +kernel), by decide +kernel⟩
theorem qk_590 : Cond.selects "java/lang/IllegalStateException" ⟨"java/lang/Throwable", "fillInStackTrace", "()Ljava/lang/Throwable;"⟩ ⟨"java/lang/Throwable", "fillInStackTrace", "()Ljava/lang/Throwable;"⟩ ∈ lw_gd := List.mem_filter.mpr ⟨List.mem_of_getElem? (i := 590) (by decide +kernel), by decide +kernel⟩
theorem qk_591 : Cond.selects "java/lang/IndexOutOfBoundsException" ⟨"java/lang/Throwable", "fillInStackTrace", "()Ljava/lang/Throwable;"⟩ ⟨"java/lang/Throwable", "fillInStackTrace", "()Ljava/lang/Throwable;"⟩ ∈ lw_gd := List.mem_filter.mpr ⟨List.mem_of_getElem? (i := 591) (by decide +kernel), by decide +kernel⟩
theorem qk_592 : Cond.selects "java/lang/UnsupportedOperationException" ⟨"java/lang/Throwable", "fillInStackTrace", "()Ljava/lang/Throwable;"⟩ ⟨"java/lang/Throwable", "fillInStackTrace", "()Ljava/lang/Throwable;"⟩ ∈ lw_gd := List.mem_filter.mpr ⟨List.mem_of_getElem? (i := 592) (by decide +kernel), by decide +kernel⟩
theorem qk_593 : Cond.selects "java/util/NoSuchElementException" ⟨"java/lang/Throwable", "fillInStackTrace", "()Ljava/lang/Throwable;"⟩ ⟨"java/lang/Throwable", "fillInStackTrace", "()Ljava/lang/Throwable;"⟩ ∈ lw_gd := List.mem_filter.mpr ⟨List.mem_of_getElem? (i := 593) (by decide +kernel), by decide +kernel⟩
theorem qk_597 : Cond.instanceMethod ⟨"java/lang/Throwable", "fillInStackTrace", "(I)Ljava/lang/Throwable;"⟩ ∈ lw_gd := List.mem_filter.mpr ⟨List.mem_of_getElem? (i := 597) (by decide +kernel), by decide +kernel⟩
theorem qk_601 : Cond.methodLink RX5 78 ⟨"java/lang/IllegalArgumentException", "<init>", "(Ljava/lang/String;)V"⟩ ∈ lw_gd := List.mem_filter.mpr ⟨List.mem_of_getElem? (i := 601) (by decide +kernel), by decide +kernel⟩
theorem qk_602 : Cond.instanceMethod ⟨"java/lang/IllegalArgumentException", "<init>", "(Ljava/lang/String;)V"⟩ ∈ lw_gd := List.mem_filter.mpr ⟨List.mem_of_getElem? (i := 602) (by decide +kernel), by decide +kernel⟩
theorem qk_605 : Cond.instanceMethod ⟨"java/lang/RuntimeException", "<init>", "(Ljava/lang/String;)V"⟩ ∈ lw_gd := List.mem_filter.mpr ⟨List.mem_of_getElem? (i := 605) (by decide +kernel), by decide +kernel⟩
theorem qk_608 : Cond.instanceMethod ⟨"java/lang/Exception", "<init>", "(Ljava/lang/String;)V"⟩ ∈ lw_gd := List.mem_filter.mpr ⟨List.mem_of_getElem? (i := 608) (by decide +kernel), by decide +kernel⟩
theorem qk_611 : Cond.instanceMethod ⟨"java/lang/Throwable", "<init>", "(Ljava/lang/String;)V"⟩ ∈ lw_gd := List.mem_filter.mpr ⟨List.mem_of_getElem? (i := 611) (by decide +kernel), by decide +kernel⟩
theorem qk_627 : Cond.classLink RX5 79 "java/lang/UnsupportedOperationException" ∈ lw_gd := List.mem_filter.mpr ⟨List.mem_of_getElem? (i := 627) (by decide +kernel), by decide +kernel⟩
theorem qk_630 : Cond.selects "java/lang/UnsupportedOperationException" ⟨"java/lang/Throwable", "fillInStackTrace", "(I)Ljava/lang/Throwable;"⟩ ⟨"java/lang/Throwable", "fillInStackTrace", "(I)Ljava/lang/Throwable;"⟩ ∈ lw_gd := List.mem_filter.mpr ⟨List.mem_of_getElem? (i := 630) (by decide +kernel), by decide +kernel⟩
theorem qk_637 : Cond.methodLink RX5 83 ⟨"java/lang/UnsupportedOperationException", "<init>", "(Ljava/lang/String;)V"⟩ ∈ lw_gd := List.mem_filter.mpr ⟨List.mem_of_getElem? (i := 637) (by decide +kernel), by decide +kernel⟩
theorem qk_638 : Cond.instanceMethod ⟨"java/lang/UnsupportedOperationException", "<init>", "(Ljava/lang/String;)V"⟩ ∈ lw_gd := List.mem_filter.mpr ⟨List.mem_of_getElem? (i := 638) (by decide +kernel), by decide +kernel⟩
theorem qk_643 : Cond.methodLink "QuakeRehearsalLaw" 135 ⟨"QuakeRehearsalLaw", "lamp", "(LQuakeRehearsal;II[J)I"⟩ ∈ lw_gd := List.mem_filter.mpr ⟨List.mem_of_getElem? (i := 643) (by decide +kernel), by decide +kernel⟩
theorem qk_644 : Cond.static ⟨"QuakeRehearsalLaw", "lamp", "(LQuakeRehearsal;II[J)I"⟩ ∈ lw_gd := List.mem_filter.mpr ⟨List.mem_of_getElem? (i := 644) (by decide +kernel), by decide +kernel⟩
theorem qk_646 : Cond.methodLink "QuakeRehearsalLaw" 17 yX5_lamp ∈ lw_gd := List.mem_filter.mpr ⟨List.mem_of_getElem? (i := 646) (by decide +kernel), by decide +kernel⟩
theorem qk_647 : Cond.instanceMethod yX5_lamp ∈ lw_gd := List.mem_filter.mpr ⟨List.mem_of_getElem? (i := 647) (by decide +kernel), by decide +kernel⟩
theorem qk_648 : Cond.selects RX5 yX5_lamp yX5_lamp ∈ lw_gd := List.mem_filter.mpr ⟨List.mem_of_getElem? (i := 648) (by decide +kernel), by decide +kernel⟩
theorem qk_649 : Cond.code yX5_lamp cX5_lamp 3 (some .int) ∈ lw_gd := List.mem_filter.mpr ⟨List.mem_of_getElem? (i := 649) (by decide +kernel), by decide +kernel⟩
theorem qk_650 : Cond.methodLink "QuakeRehearsalLaw" 138 ⟨"QuakeRehearsalLaw", "cat", "(LQuakeRehearsal;II[J)I"⟩ ∈ lw_gd := List.mem_filter.mpr ⟨List.mem_of_getElem? (i := 650) (by decide +kernel), by decide +kernel⟩
theorem qk_651 : Cond.static ⟨"QuakeRehearsalLaw", "cat", "(LQuakeRehearsal;II[J)I"⟩ ∈ lw_gd := List.mem_filter.mpr ⟨List.mem_of_getElem? (i := 651) (by decide +kernel), by decide +kernel⟩
theorem qk_653 : Cond.methodLink "QuakeRehearsalLaw" 20 yX5_cat ∈ lw_gd := List.mem_filter.mpr ⟨List.mem_of_getElem? (i := 653) (by decide +kernel), by decide +kernel⟩
theorem qk_654 : Cond.instanceMethod yX5_cat ∈ lw_gd := List.mem_filter.mpr ⟨List.mem_of_getElem? (i := 654) (by decide +kernel), by decide +kernel⟩
theorem qk_655 : Cond.selects RX5 yX5_cat yX5_cat ∈ lw_gd := List.mem_filter.mpr ⟨List.mem_of_getElem? (i := 655) (by decide +kernel), by decide +kernel⟩
theorem qk_656 : Cond.code yX5_cat cX5_cat 3 (some .int) ∈ lw_gd := List.mem_filter.mpr ⟨List.mem_of_getElem? (i := 656) (by decide +kernel), by decide +kernel⟩
theorem qk_657 : Cond.methodLink "QuakeRehearsalLaw" 141 ⟨"QuakeRehearsalLaw", "take", "(LQuakeRehearsal;I[J)I"⟩ ∈ lw_gd := List.mem_filter.mpr ⟨List.mem_of_getElem? (i := 657) (by decide +kernel), by decide +kernel⟩
theorem qk_658 : Cond.static ⟨"QuakeRehearsalLaw", "take", "(LQuakeRehearsal;I[J)I"⟩ ∈ lw_gd := List.mem_filter.mpr ⟨List.mem_of_getElem? (i := 658) (by decide +kernel), by decide +kernel⟩
theorem qk_660 : Cond.classLink "QuakeRehearsalLaw" 27 "java/lang/IndexOutOfBoundsException" ∈ lw_gd := List.mem_filter.mpr ⟨List.mem_of_getElem? (i := 660) (by decide +kernel), by decide +kernel⟩
theorem qk_662 : Cond.instanceMethod ⟨"java/lang/ArrayIndexOutOfBoundsException", "<init>", "(Ljava/lang/String;)V"⟩ ∈ lw_gd := List.mem_filter.mpr ⟨List.mem_of_getElem? (i := 662) (by decide +kernel), by decide +kernel⟩
theorem qk_665 : Cond.instanceMethod ⟨"java/lang/IndexOutOfBoundsException", "<init>", "(Ljava/lang/String;)V"⟩ ∈ lw_gd := List.mem_filter.mpr ⟨List.mem_of_getElem? (i := 665) (by decide +kernel), by decide +kernel⟩
theorem qk_678 : Cond.selects "java/lang/ArrayIndexOutOfBoundsException" ⟨"java/lang/Throwable", "fillInStackTrace", "(I)Ljava/lang/Throwable;"⟩ ⟨"java/lang/Throwable", "fillInStackTrace", "(I)Ljava/lang/Throwable;"⟩ ∈ lw_gd := List.mem_filter.mpr ⟨List.mem_of_getElem? (i := 678) (by decide +kernel), by decide +kernel⟩
theorem qk_684 : Cond.methodLink "QuakeRehearsalLaw" 23 yX5_take ∈ lw_gd := List.mem_filter.mpr ⟨List.mem_of_getElem? (i := 684) (by decide +kernel), by decide +kernel⟩
theorem qk_685 : Cond.instanceMethod yX5_take ∈ lw_gd := List.mem_filter.mpr ⟨List.mem_of_getElem? (i := 685) (by decide +kernel), by decide +kernel⟩
theorem qk_686 : Cond.selects RX5 yX5_take yX5_take ∈ lw_gd := List.mem_filter.mpr ⟨List.mem_of_getElem? (i := 686) (by decide +kernel), by decide +kernel⟩
theorem qk_687 : Cond.code yX5_take cX5_take 2 (some .int) ∈ lw_gd := List.mem_filter.mpr ⟨List.mem_of_getElem? (i := 687) (by decide +kernel), by decide +kernel⟩
theorem qk_688 : Cond.classLink RX5 67 "java/lang/IndexOutOfBoundsException" ∈ lw_gd := List.mem_filter.mpr ⟨List.mem_of_getElem? (i := 688) (by decide +kernel), by decide +kernel⟩
theorem qk_691 : Cond.selects "java/lang/IndexOutOfBoundsException" ⟨"java/lang/Throwable", "fillInStackTrace", "(I)Ljava/lang/Throwable;"⟩ ⟨"java/lang/Throwable", "fillInStackTrace", "(I)Ljava/lang/Throwable;"⟩ ∈ lw_gd := List.mem_filter.mpr ⟨List.mem_of_getElem? (i := 691) (by decide +kernel), by decide +kernel⟩
theorem qk_698 : Cond.methodLink RX5 71 ⟨"java/lang/IndexOutOfBoundsException", "<init>", "(Ljava/lang/String;)V"⟩ ∈ lw_gd := List.mem_filter.mpr ⟨List.mem_of_getElem? (i := 698) (by decide +kernel), by decide +kernel⟩
theorem qk_701 : Cond.methodLink "QuakeRehearsalLaw" 145 ⟨"QuakeRehearsalLaw", "cue", "(LQuakeRehearsal;II[J)I"⟩ ∈ lw_gd := List.mem_filter.mpr ⟨List.mem_of_getElem? (i := 701) (by decide +kernel), by decide +kernel⟩
theorem qk_702 : Cond.static ⟨"QuakeRehearsalLaw", "cue", "(LQuakeRehearsal;II[J)I"⟩ ∈ lw_gd := List.mem_filter.mpr ⟨List.mem_of_getElem? (i := 702) (by decide +kernel), by decide +kernel⟩
theorem qk_704 : Cond.methodLink "QuakeRehearsalLaw" 29 yX5_cue ∈ lw_gd := List.mem_filter.mpr ⟨List.mem_of_getElem? (i := 704) (by decide +kernel), by decide +kernel⟩
theorem qk_705 : Cond.instanceMethod yX5_cue ∈ lw_gd := List.mem_filter.mpr ⟨List.mem_of_getElem? (i := 705) (by decide +kernel), by decide +kernel⟩
theorem qk_706 : Cond.selects RX5 yX5_cue yX5_cue ∈ lw_gd := List.mem_filter.mpr ⟨List.mem_of_getElem? (i := 706) (by decide +kernel), by decide +kernel⟩
theorem qk_707 : Cond.code yX5_cue cX5_cue 4 (some .int) ∈ lw_gd := List.mem_filter.mpr ⟨List.mem_of_getElem? (i := 707) (by decide +kernel), by decide +kernel⟩
theorem qk_710 : Cond.methodLink "QuakeRehearsalLaw" 148 ⟨"QuakeRehearsalLaw", "set", "(LQuakeRehearsal;I[J)I"⟩ ∈ lw_gd := List.mem_filter.mpr ⟨List.mem_of_getElem? (i := 710) (by decide +kernel), by decide +kernel⟩
theorem qk_711 : Cond.static ⟨"QuakeRehearsalLaw", "set", "(LQuakeRehearsal;I[J)I"⟩ ∈ lw_gd := List.mem_filter.mpr ⟨List.mem_of_getElem? (i := 711) (by decide +kernel), by decide +kernel⟩
theorem qk_713 : Cond.methodLink "QuakeRehearsalLaw" 32 yX5_set ∈ lw_gd := List.mem_filter.mpr ⟨List.mem_of_getElem? (i := 713) (by decide +kernel), by decide +kernel⟩
theorem qk_714 : Cond.instanceMethod yX5_set ∈ lw_gd := List.mem_filter.mpr ⟨List.mem_of_getElem? (i := 714) (by decide +kernel), by decide +kernel⟩
theorem qk_715 : Cond.selects RX5 yX5_set yX5_set ∈ lw_gd := List.mem_filter.mpr ⟨List.mem_of_getElem? (i := 715) (by decide +kernel), by decide +kernel⟩
theorem qk_716 : Cond.code yX5_set cX5_set 2 (some .int) ∈ lw_gd := List.mem_filter.mpr ⟨List.mem_of_getElem? (i := 716) (by decide +kernel), by decide +kernel⟩
theorem qk_717 : Cond.methodLink RX5 84 yX5_strengthTold ∈ lw_gd := List.mem_filter.mpr ⟨List.mem_of_getElem? (i := 717) (by decide +kernel), by decide +kernel⟩
theorem qk_719 : Cond.instanceMethod yX5_strengthTold ∈ lw_gd := List.mem_filter.mpr ⟨List.mem_of_getElem? (i := 719) (by decide +kernel), by decide +kernel⟩
theorem qk_720 : Cond.code yX5_strengthTold cX5_strengthTold 4 (some .int) ∈ lw_gd := List.mem_filter.mpr ⟨List.mem_of_getElem? (i := 720) (by decide +kernel), by decide +kernel⟩
theorem qk_723 : Cond.methodLink "QuakeRehearsalLaw" 155 ⟨"QuakeRehearsalLaw", "add", "(LQuakeRehearsal;I[J)I"⟩ ∈ lw_gd := List.mem_filter.mpr ⟨List.mem_of_getElem? (i := 723) (by decide +kernel), by decide +kernel⟩
theorem qk_724 : Cond.static ⟨"QuakeRehearsalLaw", "add", "(LQuakeRehearsal;I[J)I"⟩ ∈ lw_gd := List.mem_filter.mpr ⟨List.mem_of_getElem? (i := 724) (by decide +kernel), by decide +kernel⟩
theorem qk_726 : Cond.methodLink "QuakeRehearsalLaw" 35 yX5_add ∈ lw_gd := List.mem_filter.mpr ⟨List.mem_of_getElem? (i := 726) (by decide +kernel), by decide +kernel⟩
theorem qk_727 : Cond.instanceMethod yX5_add ∈ lw_gd := List.mem_filter.mpr ⟨List.mem_of_getElem? (i := 727) (by decide +kernel), by decide +kernel⟩
theorem qk_728 : Cond.selects RX5 yX5_add yX5_add ∈ lw_gd := List.mem_filter.mpr ⟨List.mem_of_getElem? (i := 728) (by decide +kernel), by decide +kernel⟩
theorem qk_729 : Cond.code yX5_add cX5_add 2 (some .int) ∈ lw_gd := List.mem_filter.mpr ⟨List.mem_of_getElem? (i := 729) (by decide +kernel), by decide +kernel⟩
theorem qk_730 : Cond.methodLink "QuakeRehearsalLaw" 158 ⟨"QuakeRehearsalLaw", "perform", "(LQuakeRehearsal;[J)I"⟩ ∈ lw_gd := List.mem_filter.mpr ⟨List.mem_of_getElem? (i := 730) (by decide +kernel), by decide +kernel⟩
theorem qk_731 : Cond.static ⟨"QuakeRehearsalLaw", "perform", "(LQuakeRehearsal;[J)I"⟩ ∈ lw_gd := List.mem_filter.mpr ⟨List.mem_of_getElem? (i := 731) (by decide +kernel), by decide +kernel⟩
theorem qk_733 : Cond.methodLink "QuakeRehearsalLaw" 38 yX5_perform ∈ lw_gd := List.mem_filter.mpr ⟨List.mem_of_getElem? (i := 733) (by decide +kernel), by decide +kernel⟩
theorem qk_734 : Cond.instanceMethod yX5_perform ∈ lw_gd := List.mem_filter.mpr ⟨List.mem_of_getElem? (i := 734) (by decide +kernel), by decide +kernel⟩
theorem qk_735 : Cond.selects RX5 yX5_perform yX5_perform ∈ lw_gd := List.mem_filter.mpr ⟨List.mem_of_getElem? (i := 735) (by decide +kernel), by decide +kernel⟩
theorem qk_736 : Cond.code yX5_perform cX5_perform 1 (some .int) ∈ lw_gd := List.mem_filter.mpr ⟨List.mem_of_getElem? (i := 736) (by decide +kernel), by decide +kernel⟩
theorem qk_738 : Cond.methodLink "QuakeRehearsalLaw" 166 ⟨"QuakeRehearsalLaw", "propOf", "(LQuakeRehearsal;II[J)I"⟩ ∈ lw_gd := List.mem_filter.mpr ⟨List.mem_of_getElem? (i := 738) (by decide +kernel), by decide +kernel⟩
theorem qk_739 : Cond.static ⟨"QuakeRehearsalLaw", "propOf", "(LQuakeRehearsal;II[J)I"⟩ ∈ lw_gd := List.mem_filter.mpr ⟨List.mem_of_getElem? (i := 739) (by decide +kernel), by decide +kernel⟩
theorem qk_741 : Cond.methodLink "QuakeRehearsalLaw" 42 yX5_propOf ∈ lw_gd := List.mem_filter.mpr ⟨List.mem_of_getElem? (i := 741) (by decide +kernel), by decide +kernel⟩
theorem qk_742 : Cond.instanceMethod yX5_propOf ∈ lw_gd := List.mem_filter.mpr ⟨List.mem_of_getElem? (i := 742) (by decide +kernel), by decide +kernel⟩
theorem qk_743 : Cond.selects RX5 yX5_propOf yX5_propOf ∈ lw_gd := List.mem_filter.mpr ⟨List.mem_of_getElem? (i := 743) (by decide +kernel), by decide +kernel⟩
theorem qk_744 : Cond.code yX5_propOf cX5_propOf 4 (some .int) ∈ lw_gd := List.mem_filter.mpr ⟨List.mem_of_getElem? (i := 744) (by decide +kernel), by decide +kernel⟩
theorem qk_745 : Cond.methodLink RX5 90 yX5_propNumbered ∈ lw_gd := List.mem_filter.mpr ⟨List.mem_of_getElem? (i := 745) (by decide +kernel), by decide +kernel⟩
theorem qk_747 : Cond.instanceMethod yX5_propNumbered ∈ lw_gd := List.mem_filter.mpr ⟨List.mem_of_getElem? (i := 747) (by decide +kernel), by decide +kernel⟩
theorem qk_748 : Cond.code yX5_propNumbered cX5_propNumbered 2 (some (.object "QuakeRehearsal$Prop")) ∈ lw_gd := List.mem_filter.mpr ⟨List.mem_of_getElem? (i := 748) (by decide +kernel), by decide +kernel⟩
theorem qk_750 : Cond.methodLink "QuakeRehearsalLaw" 169 ⟨"QuakeRehearsalLaw", "programme", "(LQuakeRehearsal;I[J)I"⟩ ∈ lw_gd := List.mem_filter.mpr ⟨List.mem_of_getElem? (i := 750) (by decide +kernel), by decide +kernel⟩
theorem qk_751 : Cond.static ⟨"QuakeRehearsalLaw", "programme", "(LQuakeRehearsal;I[J)I"⟩ ∈ lw_gd := List.mem_filter.mpr ⟨List.mem_of_getElem? (i := 751) (by decide +kernel), by decide +kernel⟩
theorem qk_753 : Cond.classLink "QuakeRehearsalLaw" 48 "java/util/NoSuchElementException" ∈ lw_gd := List.mem_filter.mpr ⟨List.mem_of_getElem? (i := 753) (by decide +kernel), by decide +kernel⟩
theorem qk_754 : Cond.methodLink "QuakeRehearsalLaw" 45 yX5_programme ∈ lw_gd := List.mem_filter.mpr ⟨List.mem_of_getElem? (i := 754) (by decide +kernel), by decide +kernel⟩
theorem qk_755 : Cond.instanceMethod yX5_programme ∈ lw_gd := List.mem_filter.mpr ⟨List.mem_of_getElem? (i := 755) (by decide +kernel), by decide +kernel⟩
theorem qk_756 : Cond.selects RX5 yX5_programme yX5_programme ∈ lw_gd := List.mem_filter.mpr ⟨List.mem_of_getElem? (i := 756) (by decide +kernel), by decide +kernel⟩
theorem qk_757 : Cond.code yX5_programme cX5_programme 2 (some .int) ∈ lw_gd := List.mem_filter.mpr ⟨List.mem_of_getElem? (i := 757) (by decide +kernel), by decide +kernel⟩
theorem qk_758 : Cond.classLink RX5 122 "java/util/NoSuchElementException" ∈ lw_gd := List.mem_filter.mpr ⟨List.mem_of_getElem? (i := 758) (by decide +kernel), by decide +kernel⟩
theorem qk_761 : Cond.selects "java/util/NoSuchElementException" ⟨"java/lang/Throwable", "fillInStackTrace", "(I)Ljava/lang/Throwable;"⟩ ⟨"java/lang/Throwable", "fillInStackTrace", "(I)Ljava/lang/Throwable;"⟩ ∈ lw_gd := List.mem_filter.mpr ⟨List.mem_of_getElem? (i := 761) (by decide +kernel), by decide +kernel⟩
theorem qk_768 : Cond.methodLink RX5 126 ⟨"java/util/NoSuchElementException", "<init>", "(Ljava/lang/String;)V"⟩ ∈ lw_gd := List.mem_filter.mpr ⟨List.mem_of_getElem? (i := 768) (by decide +kernel), by decide +kernel⟩
theorem qk_769 : Cond.instanceMethod ⟨"java/util/NoSuchElementException", "<init>", "(Ljava/lang/String;)V"⟩ ∈ lw_gd := List.mem_filter.mpr ⟨List.mem_of_getElem? (i := 769) (by decide +kernel), by decide +kernel⟩
theorem qk_774 : Cond.methodLink RX5 127 yX0_plannedAt ∈ lw_gd := List.mem_filter.mpr ⟨List.mem_of_getElem? (i := 774) (by decide +kernel), by decide +kernel⟩
theorem qk_775 : Cond.methodLink "QuakeRehearsalLaw" 172 ⟨"QuakeRehearsalLaw", "on", "(LQuakeRehearsal;IIZ[J)I"⟩ ∈ lw_gd := List.mem_filter.mpr ⟨List.mem_of_getElem? (i := 775) (by decide +kernel), by decide +kernel⟩
theorem qk_776 : Cond.static ⟨"QuakeRehearsalLaw", "on", "(LQuakeRehearsal;IIZ[J)I"⟩ ∈ lw_gd := List.mem_filter.mpr ⟨List.mem_of_getElem? (i := 776) (by decide +kernel), by decide +kernel⟩
theorem qk_778 : Cond.methodLink "QuakeRehearsalLaw" 50 yX5_on ∈ lw_gd := List.mem_filter.mpr ⟨List.mem_of_getElem? (i := 778) (by decide +kernel), by decide +kernel⟩
theorem qk_779 : Cond.instanceMethod yX5_on ∈ lw_gd := List.mem_filter.mpr ⟨List.mem_of_getElem? (i := 779) (by decide +kernel), by decide +kernel⟩
theorem qk_780 : Cond.selects RX5 yX5_on yX5_on ∈ lw_gd := List.mem_filter.mpr ⟨List.mem_of_getElem? (i := 780) (by decide +kernel), by decide +kernel⟩
theorem qk_781 : Cond.code yX5_on cX5_on 4 (some .int) ∈ lw_gd := List.mem_filter.mpr ⟨List.mem_of_getElem? (i := 781) (by decide +kernel), by decide +kernel⟩
theorem qk_783 : Cond.methodLink "QuakeRehearsalLaw" 176 ⟨"QuakeRehearsalLaw", "wouldMark", "(LQuakeRehearsal;I[J)I"⟩ ∈ lw_gd := List.mem_filter.mpr ⟨List.mem_of_getElem? (i := 783) (by decide +kernel), by decide +kernel⟩
theorem qk_784 : Cond.static ⟨"QuakeRehearsalLaw", "wouldMark", "(LQuakeRehearsal;I[J)I"⟩ ∈ lw_gd := List.mem_filter.mpr ⟨List.mem_of_getElem? (i := 784) (by decide +kernel), by decide +kernel⟩
theorem qk_786 : Cond.methodLink "QuakeRehearsalLaw" 54 yX5_wouldMark ∈ lw_gd := List.mem_filter.mpr ⟨List.mem_of_getElem? (i := 786) (by decide +kernel), by decide +kernel⟩
theorem qk_787 : Cond.instanceMethod yX5_wouldMark ∈ lw_gd := List.mem_filter.mpr ⟨List.mem_of_getElem? (i := 787) (by decide +kernel), by decide +kernel⟩
theorem qk_788 : Cond.selects RX5 yX5_wouldMark yX5_wouldMark ∈ lw_gd := List.mem_filter.mpr ⟨List.mem_of_getElem? (i := 788) (by decide +kernel), by decide +kernel⟩
theorem qk_789 : Cond.code yX5_wouldMark cX5_wouldMark 2 (some .int) ∈ lw_gd := List.mem_filter.mpr ⟨List.mem_of_getElem? (i := 789) (by decide +kernel), by decide +kernel⟩
theorem qk_790 : Cond.methodLink RX5 146 yX5_requireStrength ∈ lw_gd := List.mem_filter.mpr ⟨List.mem_of_getElem? (i := 790) (by decide +kernel), by decide +kernel⟩
theorem qk_791 : Cond.static yX5_requireStrength ∈ lw_gd := List.mem_filter.mpr ⟨List.mem_of_getElem? (i := 791) (by decide +kernel), by decide +kernel⟩
theorem qk_792 : Cond.code yX5_requireStrength cX5_requireStrength 1 (none) ∈ lw_gd := List.mem_filter.mpr ⟨List.mem_of_getElem? (i := 792) (by decide +kernel), by decide +kernel⟩
theorem qk_793 : Cond.methodLink "QuakeRehearsalLaw" 179 ⟨"QuakeRehearsalLaw", "wouldBreak", "(LQuakeRehearsal;IZ[J)I"⟩ ∈ lw_gd := List.mem_filter.mpr ⟨List.mem_of_getElem? (i := 793) (by decide +kernel), by decide +kernel⟩
theorem qk_794 : Cond.static ⟨"QuakeRehearsalLaw", "wouldBreak", "(LQuakeRehearsal;IZ[J)I"⟩ ∈ lw_gd := List.mem_filter.mpr ⟨List.mem_of_getElem? (i := 794) (by decide +kernel), by decide +kernel⟩
theorem qk_796 : Cond.methodLink "QuakeRehearsalLaw" 57 yX5_wouldBreak ∈ lw_gd := List.mem_filter.mpr ⟨List.mem_of_getElem? (i := 796) (by decide +kernel), by decide +kernel⟩
theorem qk_797 : Cond.instanceMethod yX5_wouldBreak ∈ lw_gd := List.mem_filter.mpr ⟨List.mem_of_getElem? (i := 797) (by decide +kernel), by decide +kernel⟩
theorem qk_798 : Cond.selects RX5 yX5_wouldBreak yX5_wouldBreak ∈ lw_gd := List.mem_filter.mpr ⟨List.mem_of_getElem? (i := 798) (by decide +kernel), by decide +kernel⟩
theorem qk_799 : Cond.code yX5_wouldBreak cX5_wouldBreak 3 (some .int) ∈ lw_gd := List.mem_filter.mpr ⟨List.mem_of_getElem? (i := 799) (by decide +kernel), by decide +kernel⟩
theorem qk_800 : Cond.methodLink "QuakeRehearsalLaw" 191 ⟨"QuakeRehearsalLaw", "leastBreaking", "(LQuakeRehearsal;[J)I"⟩ ∈ lw_gd := List.mem_filter.mpr ⟨List.mem_of_getElem? (i := 800) (by decide +kernel), by decide +kernel⟩
theorem qk_801 : Cond.static ⟨"QuakeRehearsalLaw", "leastBreaking", "(LQuakeRehearsal;[J)I"⟩ ∈ lw_gd := List.mem_filter.mpr ⟨List.mem_of_getElem? (i := 801) (by decide +kernel), by decide +kernel⟩
theorem qk_803 : Cond.methodLink "QuakeRehearsalLaw" 61 yX5_leastBreaking ∈ lw_gd := List.mem_filter.mpr ⟨List.mem_of_getElem? (i := 803) (by decide +kernel), by decide +kernel⟩
theorem qk_804 : Cond.instanceMethod yX5_leastBreaking ∈ lw_gd := List.mem_filter.mpr ⟨List.mem_of_getElem? (i := 804) (by decide +kernel), by decide +kernel⟩
theorem qk_805 : Cond.selects RX5 yX5_leastBreaking yX5_leastBreaking ∈ lw_gd := List.mem_filter.mpr ⟨List.mem_of_getElem? (i := 805) (by decide +kernel), by decide +kernel⟩
theorem qk_806 : Cond.code yX5_leastBreaking cX5_leastBreaking 2 (some .int) ∈ lw_gd := List.mem_filter.mpr ⟨List.mem_of_getElem? (i := 806) (by decide +kernel), by decide +kernel⟩
theorem qk_808 : Cond.methodLink "QuakeRehearsalLaw" 194 ⟨"QuakeRehearsalLaw", "shocksFor", "(LQuakeRehearsal;I[J)I"⟩ ∈ lw_gd := List.mem_filter.mpr ⟨List.mem_of_getElem? (i := 808) (by decide +kernel), by decide +kernel⟩
theorem qk_809 : Cond.static ⟨"QuakeRehearsalLaw", "shocksFor", "(LQuakeRehearsal;I[J)I"⟩ ∈ lw_gd := List.mem_filter.mpr ⟨List.mem_of_getElem? (i := 809) (by decide +kernel), by decide +kernel⟩
theorem qk_811 : Cond.methodLink "QuakeRehearsalLaw" 64 yX5_shocksFor ∈ lw_gd := List.mem_filter.mpr ⟨List.mem_of_getElem? (i := 811) (by decide +kernel), by decide +kernel⟩
theorem qk_812 : Cond.instanceMethod yX5_shocksFor ∈ lw_gd := List.mem_filter.mpr ⟨List.mem_of_getElem? (i := 812) (by decide +kernel), by decide +kernel⟩
theorem qk_813 : Cond.selects RX5 yX5_shocksFor yX5_shocksFor ∈ lw_gd := List.mem_filter.mpr ⟨List.mem_of_getElem? (i := 813) (by decide +kernel), by decide +kernel⟩
theorem qk_814 : Cond.code yX5_shocksFor cX5_shocksFor 3 (some .int) ∈ lw_gd := List.mem_filter.mpr ⟨List.mem_of_getElem? (i := 814) (by decide +kernel), by decide +kernel⟩
theorem qk_815 : Cond.methodLink "QuakeRehearsalLaw" 197 ⟨"QuakeRehearsalLaw", "isBroken", "(LQuakeRehearsal;I[J)I"⟩ ∈ lw_gd := List.mem_filter.mpr ⟨List.mem_of_getElem? (i := 815) (by decide +kernel), by decide +kernel⟩
theorem qk_816 : Cond.static ⟨"QuakeRehearsalLaw", "isBroken", "(LQuakeRehearsal;I[J)I"⟩ ∈ lw_gd := List.mem_filter.mpr ⟨List.mem_of_getElem? (i := 816) (by decide +kernel), by decide +kernel⟩
theorem qk_818 : Cond.methodLink "QuakeRehearsalLaw" 67 yX5_isBroken ∈ lw_gd := List.mem_filter.mpr ⟨List.mem_of_getElem? (i := 818) (by decide +kernel), by decide +kernel⟩
theorem qk_819 : Cond.instanceMethod yX5_isBroken ∈ lw_gd := List.mem_filter.mpr ⟨List.mem_of_getElem? (i := 819) (by decide +kernel), by decide +kernel⟩
theorem qk_820 : Cond.selects RX5 yX5_isBroken yX5_isBroken ∈ lw_gd := List.mem_filter.mpr ⟨List.mem_of_getElem? (i := 820) (by decide +kernel), by decide +kernel⟩
theorem qk_821 : Cond.code yX5_isBroken cX5_isBroken 2 (some .boolean) ∈ lw_gd := List.mem_filter.mpr ⟨List.mem_of_getElem? (i := 821) (by decide +kernel), by decide +kernel⟩
theorem qk_822 : Cond.methodLink "QuakeRehearsalLaw" 200 ⟨"QuakeRehearsalLaw", "cupAt", "(LQuakeRehearsal;I[J)I"⟩ ∈ lw_gd := List.mem_filter.mpr ⟨List.mem_of_getElem? (i := 822) (by decide +kernel), by decide +kernel⟩
theorem qk_823 : Cond.static ⟨"QuakeRehearsalLaw", "cupAt", "(LQuakeRehearsal;I[J)I"⟩ ∈ lw_gd := List.mem_filter.mpr ⟨List.mem_of_getElem? (i := 823) (by decide +kernel), by decide +kernel⟩
theorem qk_825 : Cond.methodLink "QuakeRehearsalLaw" 71 yX5_cupAt ∈ lw_gd := List.mem_filter.mpr ⟨List.mem_of_getElem? (i := 825) (by decide +kernel), by decide +kernel⟩
theorem qk_826 : Cond.instanceMethod yX5_cupAt ∈ lw_gd := List.mem_filter.mpr ⟨List.mem_of_getElem? (i := 826) (by decide +kernel), by decide +kernel⟩
theorem qk_827 : Cond.selects RX5 yX5_cupAt yX5_cupAt ∈ lw_gd := List.mem_filter.mpr ⟨List.mem_of_getElem? (i := 827) (by decide +kernel), by decide +kernel⟩
theorem qk_828 : Cond.code yX5_cupAt cX5_cupAt 2 (some .int) ∈ lw_gd := List.mem_filter.mpr ⟨List.mem_of_getElem? (i := 828) (by decide +kernel), by decide +kernel⟩
theorem qk_829 : Cond.methodLink RX5 181 yX5_numberInOrder ∈ lw_gd := List.mem_filter.mpr ⟨List.mem_of_getElem? (i := 829) (by decide +kernel), by decide +kernel⟩
theorem qk_831 : Cond.instanceMethod yX5_numberInOrder ∈ lw_gd := List.mem_filter.mpr ⟨List.mem_of_getElem? (i := 831) (by decide +kernel), by decide +kernel⟩
theorem qk_832 : Cond.code yX5_numberInOrder cX5_numberInOrder 4 (some .int) ∈ lw_gd := List.mem_filter.mpr ⟨List.mem_of_getElem? (i := 832) (by decide +kernel), by decide +kernel⟩
theorem qk_833 : Cond.methodLink RX5 302 yX0_numberInOrder ∈ lw_gd := List.mem_filter.mpr ⟨List.mem_of_getElem? (i := 833) (by decide +kernel), by decide +kernel⟩
theorem qk_834 : Cond.instanceMethod yX0_numberInOrder ∈ lw_gd := List.mem_filter.mpr ⟨List.mem_of_getElem? (i := 834) (by decide +kernel), by decide +kernel⟩
theorem qk_835 : Cond.selects RX0 yX0_numberInOrder yX0_numberInOrder ∈ lw_gd := List.mem_filter.mpr ⟨List.mem_of_getElem? (i := 835) (by decide +kernel), by decide +kernel⟩
theorem qk_836 : Cond.code yX0_numberInOrder cX0_numberInOrder 4 (some .int) ∈ lw_gd := List.mem_filter.mpr ⟨List.mem_of_getElem? (i := 836) (by decide +kernel), by decide +kernel⟩
theorem qk_837 : Cond.methodLink RX0 151 yX0_countAhead ∈ lw_gd := List.mem_filter.mpr ⟨List.mem_of_getElem? (i := 837) (by decide +kernel), by decide +kernel⟩
theorem qk_838 : Cond.instanceMethod yX0_countAhead ∈ lw_gd := List.mem_filter.mpr ⟨List.mem_of_getElem? (i := 838) (by decide +kernel), by decide +kernel⟩
theorem qk_839 : Cond.selects RX0 yX0_countAhead yX0_countAhead ∈ lw_gd := List.mem_filter.mpr ⟨List.mem_of_getElem? (i := 839) (by decide +kernel), by decide +kernel⟩
theorem qk_840 : Cond.code yX0_countAhead cX0_countAhead 7 (some .int) ∈ lw_gd := List.mem_filter.mpr ⟨List.mem_of_getElem? (i := 840) (by decide +kernel), by decide +kernel⟩
theorem qk_841 : Cond.methodLink RX0 154 yX3_orderTo ∈ lw_gd := List.mem_filter.mpr ⟨List.mem_of_getElem? (i := 841) (by decide +kernel), by decide +kernel⟩
theorem qk_842 : Cond.instanceMethod yX3_orderTo ∈ lw_gd := List.mem_filter.mpr ⟨List.mem_of_getElem? (i := 842) (by decide +kernel), by decide +kernel⟩
theorem qk_843 : Cond.selects RX3 yX3_orderTo yX3_orderTo ∈ lw_gd := List.mem_filter.mpr ⟨List.mem_of_getElem? (i := 843) (by decide +kernel), by decide +kernel⟩
theorem qk_844 : Cond.code yX3_orderTo cX3_orderTo 3 (some .int) ∈ lw_gd := List.mem_filter.mpr ⟨List.mem_of_getElem? (i := 844) (by decide +kernel), by decide +kernel⟩
theorem qk_845 : Cond.methodLink RX3 44 yJ6_compare_7cf53 ∈ lw_gd := List.mem_filter.mpr ⟨List.mem_of_getElem? (i := 845) (by decide +kernel), by decide +kernel⟩
theorem qk_846 : Cond.static yJ6_compare_7cf53 ∈ lw_gd := List.mem_filter.mpr ⟨List.mem_of_getElem? (i := 846) (by decide +kernel), by decide +kernel⟩
theorem qk_847 : Cond.code yJ6_compare_7cf53 cJ6_compare_7cf53 2 (some .int) ∈ lw_gd := List.mem_filter.mpr ⟨List.mem_of_getElem? (i := 847) (by decide +kernel), by decide +kernel⟩
theorem qk_849 : Cond.methodLink "QuakeRehearsalLaw" 203 ⟨"QuakeRehearsalLaw", "lampAt", "(LQuakeRehearsal;I[J)I"⟩ ∈ lw_gd := List.mem_filter.mpr ⟨List.mem_of_getElem? (i := 849) (by decide +kernel), by decide +kernel⟩
theorem qk_850 : Cond.static ⟨"QuakeRehearsalLaw", "lampAt", "(LQuakeRehearsal;I[J)I"⟩ ∈ lw_gd := List.mem_filter.mpr ⟨List.mem_of_getElem? (i := 850) (by decide +kernel), by decide +kernel⟩
theorem qk_852 : Cond.methodLink "QuakeRehearsalLaw" 74 yX5_lampAt ∈ lw_gd := List.mem_filter.mpr ⟨List.mem_of_getElem? (i := 852) (by decide +kernel), by decide +kernel⟩
theorem qk_853 : Cond.instanceMethod yX5_lampAt ∈ lw_gd := List.mem_filter.mpr ⟨List.mem_of_getElem? (i := 853) (by decide +kernel), by decide +kernel⟩
theorem qk_854 : Cond.selects RX5 yX5_lampAt yX5_lampAt ∈ lw_gd := List.mem_filter.mpr ⟨List.mem_of_getElem? (i := 854) (by decide +kernel), by decide +kernel⟩
theorem qk_855 : Cond.code yX5_lampAt cX5_lampAt 2 (some .int) ∈ lw_gd := List.mem_filter.mpr ⟨List.mem_of_getElem? (i := 855) (by decide +kernel), by decide +kernel⟩
theorem qk_856 : Cond.methodLink "QuakeRehearsalLaw" 206 ⟨"QuakeRehearsalLaw", "catAt", "(LQuakeRehearsal;I[J)I"⟩ ∈ lw_gd := List.mem_filter.mpr ⟨List.mem_of_getElem? (i := 856) (by decide +kernel), by decide +kernel⟩
theorem qk_857 : Cond.static ⟨"QuakeRehearsalLaw", "catAt", "(LQuakeRehearsal;I[J)I"⟩ ∈ lw_gd := List.mem_filter.mpr ⟨List.mem_of_getElem? (i := 857) (by decide +kernel), by decide +kernel⟩
theorem qk_859 : Cond.methodLink "QuakeRehearsalLaw" 77 yX5_catAt ∈ lw_gd := List.mem_filter.mpr ⟨List.mem_of_getElem? (i := 859) (by decide +kernel), by decide +kernel⟩
theorem qk_860 : Cond.instanceMethod yX5_catAt ∈ lw_gd := List.mem_filter.mpr ⟨List.mem_of_getElem? (i := 860) (by decide +kernel), by decide +kernel⟩
theorem qk_861 : Cond.selects RX5 yX5_catAt yX5_catAt ∈ lw_gd := List.mem_filter.mpr ⟨List.mem_of_getElem? (i := 861) (by decide +kernel), by decide +kernel⟩
theorem qk_862 : Cond.code yX5_catAt cX5_catAt 2 (some .int) ∈ lw_gd := List.mem_filter.mpr ⟨List.mem_of_getElem? (i := 862) (by decide +kernel), by decide +kernel⟩
theorem qk_863 : Cond.methodLink "QuakeRehearsalLaw" 209 ⟨"QuakeRehearsalLaw", "onFloor", "(LQuakeRehearsal;II[J)I"⟩ ∈ lw_gd := List.mem_filter.mpr ⟨List.mem_of_getElem? (i := 863) (by decide +kernel), by decide +kernel⟩
theorem qk_864 : Cond.static ⟨"QuakeRehearsalLaw", "onFloor", "(LQuakeRehearsal;II[J)I"⟩ ∈ lw_gd := List.mem_filter.mpr ⟨List.mem_of_getElem? (i := 864) (by decide +kernel), by decide +kernel⟩
theorem qk_866 : Cond.methodLink "QuakeRehearsalLaw" 80 yX5_onFloor ∈ lw_gd := List.mem_filter.mpr ⟨List.mem_of_getElem? (i := 866) (by decide +kernel), by decide +kernel⟩
theorem qk_867 : Cond.instanceMethod yX5_onFloor ∈ lw_gd := List.mem_filter.mpr ⟨List.mem_of_getElem? (i := 867) (by decide +kernel), by decide +kernel⟩
theorem qk_868 : Cond.selects RX5 yX5_onFloor yX5_onFloor ∈ lw_gd := List.mem_filter.mpr ⟨List.mem_of_getElem? (i := 868) (by decide +kernel), by decide +kernel⟩
theorem qk_869 : Cond.code yX5_onFloor cX5_onFloor 3 (some .int) ∈ lw_gd := List.mem_filter.mpr ⟨List.mem_of_getElem? (i := 869) (by decide +kernel), by decide +kernel⟩
theorem qk_871 : Cond.methodLink "QuakeRehearsalLaw" 212 ⟨"QuakeRehearsalLaw", "line", "(LQuakeRehearsal;I[J)I"⟩ ∈ lw_gd := List.mem_filter.mpr ⟨List.mem_of_getElem? (i := 871) (by decide +kernel), by decide +kernel⟩
theorem qk_872 : Cond.static ⟨"QuakeRehearsalLaw", "line", "(LQuakeRehearsal;I[J)I"⟩ ∈ lw_gd := List.mem_filter.mpr ⟨List.mem_of_getElem? (i := 872) (by decide +kernel), by decide +kernel⟩
theorem qk_874 : Cond.methodLink "QuakeRehearsalLaw" 83 yX5_line ∈ lw_gd := List.mem_filter.mpr ⟨List.mem_of_getElem? (i := 874) (by decide +kernel), by decide +kernel⟩
theorem qk_875 : Cond.instanceMethod yX5_line ∈ lw_gd := List.mem_filter.mpr ⟨List.mem_of_getElem? (i := 875) (by decide +kernel), by decide +kernel⟩
theorem qk_876 : Cond.selects RX5 yX5_line yX5_line ∈ lw_gd := List.mem_filter.mpr ⟨List.mem_of_getElem? (i := 876) (by decide +kernel), by decide +kernel⟩
theorem qk_877 : Cond.code yX5_line cX5_line 2 (some .int) ∈ lw_gd := List.mem_filter.mpr ⟨List.mem_of_getElem? (i := 877) (by decide +kernel), by decide +kernel⟩
theorem qk_878 : Cond.methodLink RX5 189 yX2_writeProp ∈ lw_gd := List.mem_filter.mpr ⟨List.mem_of_getElem? (i := 878) (by decide +kernel), by decide +kernel⟩
theorem qk_879 : Cond.instanceMethod yX2_writeProp ∈ lw_gd := List.mem_filter.mpr ⟨List.mem_of_getElem? (i := 879) (by decide +kernel), by decide +kernel⟩
theorem qk_880 : Cond.selects RX2 yX2_writeProp yX2_writeProp ∈ lw_gd := List.mem_filter.mpr ⟨List.mem_of_getElem? (i := 880) (by decide +kernel), by decide +kernel⟩
theorem qk_881 : Cond.code yX2_writeProp cX2_writeProp 3 (none) ∈ lw_gd := List.mem_filter.mpr ⟨List.mem_of_getElem? (i := 881) (by decide +kernel), by decide +kernel⟩
theorem qk_882 : Cond.methodLink "QuakeRehearsalLaw" 219 ⟨"QuakeRehearsalLaw", "character", "(LQuakeRehearsal;I[J)I"⟩ ∈ lw_gd := List.mem_filter.mpr ⟨List.mem_of_getElem? (i := 882) (by decide +kernel), by decide +kernel⟩
theorem qk_883 : Cond.static ⟨"QuakeRehearsalLaw", "character", "(LQuakeRehearsal;I[J)I"⟩ ∈ lw_gd := List.mem_filter.mpr ⟨List.mem_of_getElem? (i := 883) (by decide +kernel), by decide +kernel⟩
theorem qk_885 : Cond.methodLink "QuakeRehearsalLaw" 86 yX5_character ∈ lw_gd := List.mem_filter.mpr ⟨List.mem_of_getElem? (i := 885) (by decide +kernel), by decide +kernel⟩
theorem qk_886 : Cond.instanceMethod yX5_character ∈ lw_gd := List.mem_filter.mpr ⟨List.mem_of_getElem? (i := 886) (by decide +kernel), by decide +kernel⟩
theorem qk_887 : Cond.selects RX5 yX5_character yX5_character ∈ lw_gd := List.mem_filter.mpr ⟨List.mem_of_getElem? (i := 887) (by decide +kernel), by decide +kernel⟩
theorem qk_888 : Cond.code yX5_character cX5_character 2 (some .char) ∈ lw_gd := List.mem_filter.mpr ⟨List.mem_of_getElem? (i := 888) (by decide +kernel), by decide +kernel⟩
theorem qk_890 : Cond.methodLink RX5 201 yX2_signAt ∈ lw_gd := List.mem_filter.mpr ⟨List.mem_of_getElem? (i := 890) (by decide +kernel), by decide +kernel⟩
theorem qk_891 : Cond.instanceMethod yX2_signAt ∈ lw_gd := List.mem_filter.mpr ⟨List.mem_of_getElem? (i := 891) (by decide +kernel), by decide +kernel⟩
theorem qk_892 : Cond.selects RX2 yX2_signAt yX2_signAt ∈ lw_gd := List.mem_filter.mpr ⟨List.mem_of_getElem? (i := 892) (by decide +kernel), by decide +kernel⟩
theorem qk_893 : Cond.code yX2_signAt cX2_signAt 2 (some .char) ∈ lw_gd := List.mem_filter.mpr ⟨List.mem_of_getElem? (i := 893) (by decide +kernel), by decide +kernel⟩
theorem qk_894 : Cond.methodLink "QuakeRehearsalLaw" 222 ⟨"QuakeRehearsalLaw", "append", "(LQuakeRehearsal;C[J)I"⟩ ∈ lw_gd := List.mem_filter.mpr ⟨List.mem_of_getElem? (i := 894) (by decide +kernel), by decide +kernel⟩
theorem qk_895 : Cond.static ⟨"QuakeRehearsalLaw", "append", "(LQuakeRehearsal;C[J)I"⟩ ∈ lw_gd := List.mem_filter.mpr ⟨List.mem_of_getElem? (i := 895) (by decide +kernel), by decide +kernel⟩
theorem qk_897 : Cond.classLink "QuakeRehearsalLaw" 94 "java/lang/IllegalStateException" ∈ lw_gd := List.mem_filter.mpr ⟨List.mem_of_getElem? (i := 897) (by decide +kernel), by decide +kernel⟩
theorem qk_898 : Cond.methodLink "QuakeRehearsalLaw" 90 yX5_append ∈ lw_gd := List.mem_filter.mpr ⟨List.mem_of_getElem? (i := 898) (by decide +kernel), by decide +kernel⟩
theorem qk_899 : Cond.instanceMethod yX5_append ∈ lw_gd := List.mem_filter.mpr ⟨List.mem_of_getElem? (i := 899) (by decide +kernel), by decide +kernel⟩
theorem qk_900 : Cond.selects RX5 yX5_append yX5_append ∈ lw_gd := List.mem_filter.mpr ⟨List.mem_of_getElem? (i := 900) (by decide +kernel), by decide +kernel⟩
theorem qk_901 : Cond.code yX5_append cX5_append 2 (some .int) ∈ lw_gd := List.mem_filter.mpr ⟨List.mem_of_getElem? (i := 901) (by decide +kernel), by decide +kernel⟩
theorem qk_902 : Cond.classLink RX5 206 "java/lang/IllegalStateException" ∈ lw_gd := List.mem_filter.mpr ⟨List.mem_of_getElem? (i := 902) (by decide +kernel), by decide +kernel⟩
theorem qk_905 : Cond.selects "java/lang/IllegalStateException" ⟨"java/lang/Throwable", "fillInStackTrace", "(I)Ljava/lang/Throwable;"⟩ ⟨"java/lang/Throwable", "fillInStackTrace", "(I)Ljava/lang/Throwable;"⟩ ∈ lw_gd := List.mem_filter.mpr ⟨List.mem_of_getElem? (i := 905) (by decide +kernel), by decide +kernel⟩
theorem qk_912 : Cond.methodLink RX5 210 ⟨"java/lang/IllegalStateException", "<init>", "(Ljava/lang/String;)V"⟩ ∈ lw_gd := List.mem_filter.mpr ⟨List.mem_of_getElem? (i := 912) (by decide +kernel), by decide +kernel⟩
theorem qk_913 : Cond.instanceMethod ⟨"java/lang/IllegalStateException", "<init>", "(Ljava/lang/String;)V"⟩ ∈ lw_gd := List.mem_filter.mpr ⟨List.mem_of_getElem? (i := 913) (by decide +kernel), by decide +kernel⟩
theorem qk_918 : Cond.methodLink RX5 211 yX4_put ∈ lw_gd := List.mem_filter.mpr ⟨List.mem_of_getElem? (i := 918) (by decide +kernel), by decide +kernel⟩
theorem qk_919 : Cond.instanceMethod yX4_put ∈ lw_gd := List.mem_filter.mpr ⟨List.mem_of_getElem? (i := 919) (by decide +kernel), by decide +kernel⟩
theorem qk_920 : Cond.selects RX4 yX4_put yX4_put ∈ lw_gd := List.mem_filter.mpr ⟨List.mem_of_getElem? (i := 920) (by decide +kernel), by decide +kernel⟩
theorem qk_921 : Cond.code yX4_put cX4_put 2 (none) ∈ lw_gd := List.mem_filter.mpr ⟨List.mem_of_getElem? (i := 921) (by decide +kernel), by decide +kernel⟩
theorem qk_922 : Cond.methodLink "QuakeRehearsalLaw" 226 ⟨"QuakeRehearsalLaw", "run", "(LQuakeRehearsal;[J)I"⟩ ∈ lw_gd := List.mem_filter.mpr ⟨List.mem_of_getElem? (i := 922) (by decide +kernel), by decide +kernel⟩
theorem qk_923 : Cond.static ⟨"QuakeRehearsalLaw", "run", "(LQuakeRehearsal;[J)I"⟩ ∈ lw_gd := List.mem_filter.mpr ⟨List.mem_of_getElem? (i := 923) (by decide +kernel), by decide +kernel⟩
theorem qk_925 : Cond.methodLink "QuakeRehearsalLaw" 96 yX5_run ∈ lw_gd := List.mem_filter.mpr ⟨List.mem_of_getElem? (i := 925) (by decide +kernel), by decide +kernel⟩
theorem qk_926 : Cond.instanceMethod yX5_run ∈ lw_gd := List.mem_filter.mpr ⟨List.mem_of_getElem? (i := 926) (by decide +kernel), by decide +kernel⟩
theorem qk_927 : Cond.selects RX5 yX5_run yX5_run ∈ lw_gd := List.mem_filter.mpr ⟨List.mem_of_getElem? (i := 927) (by decide +kernel), by decide +kernel⟩
theorem qk_928 : Cond.code yX5_run cX5_run 3 (some .int) ∈ lw_gd := List.mem_filter.mpr ⟨List.mem_of_getElem? (i := 928) (by decide +kernel), by decide +kernel⟩
theorem qk_929 : Cond.methodLink RX5 215 yX4_read ∈ lw_gd := List.mem_filter.mpr ⟨List.mem_of_getElem? (i := 929) (by decide +kernel), by decide +kernel⟩
theorem qk_930 : Cond.instanceMethod yX4_read ∈ lw_gd := List.mem_filter.mpr ⟨List.mem_of_getElem? (i := 930) (by decide +kernel), by decide +kernel⟩
theorem qk_931 : Cond.selects RX4 yX4_read yX4_read ∈ lw_gd := List.mem_filter.mpr ⟨List.mem_of_getElem? (i := 931) (by decide +kernel), by decide +kernel⟩
theorem qk_932 : Cond.code yX4_read cX4_read 2 (some .int) ∈ lw_gd := List.mem_filter.mpr ⟨List.mem_of_getElem? (i := 932) (by decide +kernel), by decide +kernel⟩
theorem qk_933 : Cond.methodLink RX4 35 yX4_readOrder ∈ lw_gd := List.mem_filter.mpr ⟨List.mem_of_getElem? (i := 933) (by decide +kernel), by decide +kernel⟩
theorem qk_934 : Cond.instanceMethod yX4_readOrder ∈ lw_gd := List.mem_filter.mpr ⟨List.mem_of_getElem? (i := 934) (by decide +kernel), by decide +kernel⟩
theorem qk_935 : Cond.selects RX4 yX4_readOrder yX4_readOrder ∈ lw_gd := List.mem_filter.mpr ⟨List.mem_of_getElem? (i := 935) (by decide +kernel), by decide +kernel⟩
theorem qk_936 : Cond.code yX4_readOrder cX4_readOrder 4 (some .boolean) ∈ lw_gd := List.mem_filter.mpr ⟨List.mem_of_getElem? (i := 936) (by decide +kernel), by decide +kernel⟩
theorem qk_937 : Cond.methodLink RX4 43 yX4_readWord ∈ lw_gd := List.mem_filter.mpr ⟨List.mem_of_getElem? (i := 937) (by decide +kernel), by decide +kernel⟩
theorem qk_938 : Cond.instanceMethod yX4_readWord ∈ lw_gd := List.mem_filter.mpr ⟨List.mem_of_getElem? (i := 938) (by decide +kernel), by decide +kernel⟩
theorem qk_939 : Cond.selects RX4 yX4_readWord yX4_readWord ∈ lw_gd := List.mem_filter.mpr ⟨List.mem_of_getElem? (i := 939) (by decide +kernel), by decide +kernel⟩
theorem qk_940 : Cond.code yX4_readWord cX4_readWord 5 (some .int) ∈ lw_gd := List.mem_filter.mpr ⟨List.mem_of_getElem? (i := 940) (by decide +kernel), by decide +kernel⟩
theorem qk_941 : Cond.methodLink RX4 51 yX4_nameOf ∈ lw_gd := List.mem_filter.mpr ⟨List.mem_of_getElem? (i := 941) (by decide +kernel), by decide +kernel⟩
theorem qk_942 : Cond.static yX4_nameOf ∈ lw_gd := List.mem_filter.mpr ⟨List.mem_of_getElem? (i := 942) (by decide +kernel), by decide +kernel⟩
theorem qk_943 : Cond.code yX4_nameOf cX4_nameOf 1 (some (.object "java/lang/String")) ∈ lw_gd := List.mem_filter.mpr ⟨List.mem_of_getElem? (i := 943) (by decide +kernel), by decide +kernel⟩
theorem qk_954 : Cond.methodLink RX4 55 yX4_countAlike ∈ lw_gd := List.mem_filter.mpr ⟨List.mem_of_getElem? (i := 954) (by decide +kernel), by decide +kernel⟩
theorem qk_955 : Cond.instanceMethod yX4_countAlike ∈ lw_gd := List.mem_filter.mpr ⟨List.mem_of_getElem? (i := 955) (by decide +kernel), by decide +kernel⟩
theorem qk_956 : Cond.selects RX4 yX4_countAlike yX4_countAlike ∈ lw_gd := List.mem_filter.mpr ⟨List.mem_of_getElem? (i := 956) (by decide +kernel), by decide +kernel⟩
theorem qk_957 : Cond.code yX4_countAlike cX4_countAlike 3 (some .int) ∈ lw_gd := List.mem_filter.mpr ⟨List.mem_of_getElem? (i := 957) (by decide +kernel), by decide +kernel⟩
theorem qk_958 : Cond.methodLink RX4 59 ⟨"java/lang/String", "length", "()I"⟩ ∈ lw_gd := List.mem_filter.mpr ⟨List.mem_of_getElem? (i := 958) (by decide +kernel), by decide +kernel⟩
theorem qk_959 : Cond.instanceMethod ⟨"java/lang/String", "length", "()I"⟩ ∈ lw_gd := List.mem_filter.mpr ⟨List.mem_of_getElem? (i := 959) (by decide +kernel), by decide +kernel⟩
theorem qk_960 : Cond.selects "java/lang/String" ⟨"java/lang/String", "length", "()I"⟩ ⟨"java/lang/String", "length", "()I"⟩ ∈ lw_gd := List.mem_filter.mpr ⟨List.mem_of_getElem? (i := 960) (by decide +kernel), by decide +kernel⟩
theorem qk_963 : Cond.instanceMethod ⟨"java/lang/String", "coder", "()B"⟩ ∈ lw_gd := List.mem_filter.mpr ⟨List.mem_of_getElem? (i := 963) (by decide +kernel), by decide +kernel⟩
theorem qk_964 : Cond.selects "java/lang/String" ⟨"java/lang/String", "coder", "()B"⟩ ⟨"java/lang/String", "coder", "()B"⟩ ∈ lw_gd := List.mem_filter.mpr ⟨List.mem_of_getElem? (i := 964) (by decide +kernel), by decide +kernel⟩
theorem qk_968 : Cond.methodLink RX4 63 ⟨"java/lang/String", "charAt", "(I)C"⟩ ∈ lw_gd := List.mem_filter.mpr ⟨List.mem_of_getElem? (i := 968) (by decide +kernel), by decide +kernel⟩
theorem qk_969 : Cond.instanceMethod ⟨"java/lang/String", "charAt", "(I)C"⟩ ∈ lw_gd := List.mem_filter.mpr ⟨List.mem_of_getElem? (i := 969) (by decide +kernel), by decide +kernel⟩
theorem qk_970 : Cond.selects "java/lang/String" ⟨"java/lang/String", "charAt", "(I)C"⟩ ⟨"java/lang/String", "charAt", "(I)C"⟩ ∈ lw_gd := List.mem_filter.mpr ⟨List.mem_of_getElem? (i := 970) (by decide +kernel), by decide +kernel⟩
theorem qk_973 : Cond.instanceMethod ⟨"java/lang/String", "isLatin1", "()Z"⟩ ∈ lw_gd := List.mem_filter.mpr ⟨List.mem_of_getElem? (i := 973) (by decide +kernel), by decide +kernel⟩
theorem qk_974 : Cond.selects "java/lang/String" ⟨"java/lang/String", "isLatin1", "()Z"⟩ ⟨"java/lang/String", "isLatin1", "()Z"⟩ ∈ lw_gd := List.mem_filter.mpr ⟨List.mem_of_getElem? (i := 974) (by decide +kernel), by decide +kernel⟩
theorem qk_977 : Cond.static ⟨"java/lang/StringLatin1", "charAt", "([BI)C"⟩ ∈ lw_gd := List.mem_filter.mpr ⟨List.mem_of_getElem? (i := 977) (by decide +kernel), by decide +kernel⟩
theorem qk_980 : Cond.static ⟨"java/lang/String", "checkIndex", "(II)V"⟩ ∈ lw_gd := List.mem_filter.mpr ⟨List.mem_of_getElem? (i := 980) (by decide +kernel), by decide +kernel⟩
theorem qk_985 : Cond.static ⟨"jdk/internal/util/Preconditions", "checkIndex", "(IILjava/util/function/BiFunction;)I"⟩ ∈ lw_gd := List.mem_filter.mpr ⟨List.mem_of_getElem? (i := 985) (by decide +kernel), by decide +kernel⟩
theorem qk_988 : Cond.static ⟨"java/lang/StringUTF16", "charAt", "([BI)C"⟩ ∈ lw_gd := List.mem_filter.mpr ⟨List.mem_of_getElem? (i := 988) (by decide +kernel), by decide +kernel⟩
theorem qk_991 : Cond.static ⟨"java/lang/StringUTF16", "checkIndex", "(I[B)V"⟩ ∈ lw_gd := List.mem_filter.mpr ⟨List.mem_of_getElem? (i := 991) (by decide +kernel), by decide +kernel⟩
theorem qk_994 : Cond.static ⟨"java/lang/StringUTF16", "length", "([B)I"⟩ ∈ lw_gd := List.mem_filter.mpr ⟨List.mem_of_getElem? (i := 994) (by decide +kernel), by decide +kernel⟩
theorem qk_998 : Cond.static ⟨"java/lang/StringUTF16", "getChar", "([BI)C"⟩ ∈ lw_gd := List.mem_filter.mpr ⟨List.mem_of_getElem? (i := 998) (by decide +kernel), by decide +kernel⟩
theorem qk_1006 : Cond.methodLink RX4 67 yX4_isNext ∈ lw_gd := List.mem_filter.mpr ⟨List.mem_of_getElem? (i := 1006) (by decide +kernel), by decide +kernel⟩
theorem qk_1007 : Cond.instanceMethod yX4_isNext ∈ lw_gd := List.mem_filter.mpr ⟨List.mem_of_getElem? (i := 1007) (by decide +kernel), by decide +kernel⟩
theorem qk_1008 : Cond.selects RX4 yX4_isNext yX4_isNext ∈ lw_gd := List.mem_filter.mpr ⟨List.mem_of_getElem? (i := 1008) (by decide +kernel), by decide +kernel⟩
theorem qk_1009 : Cond.code yX4_isNext cX4_isNext 3 (some .boolean) ∈ lw_gd := List.mem_filter.mpr ⟨List.mem_of_getElem? (i := 1009) (by decide +kernel), by decide +kernel⟩
theorem qk_1010 : Cond.methodLink RX4 47 yX4_readNumber ∈ lw_gd := List.mem_filter.mpr ⟨List.mem_of_getElem? (i := 1010) (by decide +kernel), by decide +kernel⟩
theorem qk_1011 : Cond.instanceMethod yX4_readNumber ∈ lw_gd := List.mem_filter.mpr ⟨List.mem_of_getElem? (i := 1011) (by decide +kernel), by decide +kernel⟩
theorem qk_1012 : Cond.selects RX4 yX4_readNumber yX4_readNumber ∈ lw_gd := List.mem_filter.mpr ⟨List.mem_of_getElem? (i := 1012) (by decide +kernel), by decide +kernel⟩
theorem qk_1013 : Cond.code yX4_readNumber cX4_readNumber 4 (some .int) ∈ lw_gd := List.mem_filter.mpr ⟨List.mem_of_getElem? (i := 1013) (by decide +kernel), by decide +kernel⟩
theorem qk_1014 : Cond.methodLink RX4 39 yX4_readSign ∈ lw_gd := List.mem_filter.mpr ⟨List.mem_of_getElem? (i := 1014) (by decide +kernel), by decide +kernel⟩
theorem qk_1015 : Cond.instanceMethod yX4_readSign ∈ lw_gd := List.mem_filter.mpr ⟨List.mem_of_getElem? (i := 1015) (by decide +kernel), by decide +kernel⟩
theorem qk_1016 : Cond.selects RX4 yX4_readSign yX4_readSign ∈ lw_gd := List.mem_filter.mpr ⟨List.mem_of_getElem? (i := 1016) (by decide +kernel), by decide +kernel⟩
theorem qk_1017 : Cond.code yX4_readSign cX4_readSign 2 (some .boolean) ∈ lw_gd := List.mem_filter.mpr ⟨List.mem_of_getElem? (i := 1017) (by decide +kernel), by decide +kernel⟩
theorem qk_1018 : Cond.methodLink RX4 71 yX4_readDigit ∈ lw_gd := List.mem_filter.mpr ⟨List.mem_of_getElem? (i := 1018) (by decide +kernel), by decide +kernel⟩
theorem qk_1019 : Cond.instanceMethod yX4_readDigit ∈ lw_gd := List.mem_filter.mpr ⟨List.mem_of_getElem? (i := 1019) (by decide +kernel), by decide +kernel⟩
theorem qk_1020 : Cond.selects RX4 yX4_readDigit yX4_readDigit ∈ lw_gd := List.mem_filter.mpr ⟨List.mem_of_getElem? (i := 1020) (by decide +kernel), by decide +kernel⟩
theorem qk_1021 : Cond.code yX4_readDigit cX4_readDigit 2 (some .int) ∈ lw_gd := List.mem_filter.mpr ⟨List.mem_of_getElem? (i := 1021) (by decide +kernel), by decide +kernel⟩
theorem qk_1023 : Cond.methodLink RX5 226 yX4_wordAt ∈ lw_gd := List.mem_filter.mpr ⟨List.mem_of_getElem? (i := 1023) (by decide +kernel), by decide +kernel⟩
theorem qk_1024 : Cond.instanceMethod yX4_wordAt ∈ lw_gd := List.mem_filter.mpr ⟨List.mem_of_getElem? (i := 1024) (by decide +kernel), by decide +kernel⟩
theorem qk_1025 : Cond.selects RX4 yX4_wordAt yX4_wordAt ∈ lw_gd := List.mem_filter.mpr ⟨List.mem_of_getElem? (i := 1025) (by decide +kernel), by decide +kernel⟩
theorem qk_1026 : Cond.code yX4_wordAt cX4_wordAt 2 (some .int) ∈ lw_gd := List.mem_filter.mpr ⟨List.mem_of_getElem? (i := 1026) (by decide +kernel), by decide +kernel⟩
theorem qk_1027 : Cond.methodLink RX5 229 yX4_firstAt ∈ lw_gd := List.mem_filter.mpr ⟨List.mem_of_getElem? (i := 1027) (by decide +kernel), by decide +kernel⟩
theorem qk_1028 : Cond.instanceMethod yX4_firstAt ∈ lw_gd := List.mem_filter.mpr ⟨List.mem_of_getElem? (i := 1028) (by decide +kernel), by decide +kernel⟩
theorem qk_1029 : Cond.selects RX4 yX4_firstAt yX4_firstAt ∈ lw_gd := List.mem_filter.mpr ⟨List.mem_of_getElem? (i := 1029) (by decide +kernel), by decide +kernel⟩
theorem qk_1030 : Cond.code yX4_firstAt cX4_firstAt 2 (some .int) ∈ lw_gd := List.mem_filter.mpr ⟨List.mem_of_getElem? (i := 1030) (by decide +kernel), by decide +kernel⟩
theorem qk_1031 : Cond.methodLink RX5 232 yX4_secondAt ∈ lw_gd := List.mem_filter.mpr ⟨List.mem_of_getElem? (i := 1031) (by decide +kernel), by decide +kernel⟩
theorem qk_1032 : Cond.instanceMethod yX4_secondAt ∈ lw_gd := List.mem_filter.mpr ⟨List.mem_of_getElem? (i := 1032) (by decide +kernel), by decide +kernel⟩
theorem qk_1033 : Cond.selects RX4 yX4_secondAt yX4_secondAt ∈ lw_gd := List.mem_filter.mpr ⟨List.mem_of_getElem? (i := 1033) (by decide +kernel), by decide +kernel⟩
theorem qk_1034 : Cond.code yX4_secondAt cX4_secondAt 2 (some .int) ∈ lw_gd := List.mem_filter.mpr ⟨List.mem_of_getElem? (i := 1034) (by decide +kernel), by decide +kernel⟩
theorem qk_1035 : Cond.methodLink RX5 241 yX1_copyNoteTo ∈ lw_gd := List.mem_filter.mpr ⟨List.mem_of_getElem? (i := 1035) (by decide +kernel), by decide +kernel⟩
theorem qk_1036 : Cond.instanceMethod yX1_copyNoteTo ∈ lw_gd := List.mem_filter.mpr ⟨List.mem_of_getElem? (i := 1036) (by decide +kernel), by decide +kernel⟩
theorem qk_1037 : Cond.selects RX1 yX1_copyNoteTo yX1_copyNoteTo ∈ lw_gd := List.mem_filter.mpr ⟨List.mem_of_getElem? (i := 1037) (by decide +kernel), by decide +kernel⟩
theorem qk_1038 : Cond.code yX1_copyNoteTo cX1_copyNoteTo 3 (none) ∈ lw_gd := List.mem_filter.mpr ⟨List.mem_of_getElem? (i := 1038) (by decide +kernel), by decide +kernel⟩
theorem qk_1041 : Cond.methodLink "QuakeRehearsalLaw" 233 ⟨"QuakeRehearsalLaw", "refusal", "(LQuakeRehearsal;Z[J)I"⟩ ∈ lw_gd := List.mem_filter.mpr ⟨List.mem_of_getElem? (i := 1041) (by decide +kernel), by decide +kernel⟩
theorem qk_1042 : Cond.static ⟨"QuakeRehearsalLaw", "refusal", "(LQuakeRehearsal;Z[J)I"⟩ ∈ lw_gd := List.mem_filter.mpr ⟨List.mem_of_getElem? (i := 1042) (by decide +kernel), by decide +kernel⟩
theorem qk_1044 : Cond.methodLink "QuakeRehearsalLaw" 99 yX5_refusal ∈ lw_gd := List.mem_filter.mpr ⟨List.mem_of_getElem? (i := 1044) (by decide +kernel), by decide +kernel⟩
theorem qk_1045 : Cond.instanceMethod yX5_refusal ∈ lw_gd := List.mem_filter.mpr ⟨List.mem_of_getElem? (i := 1045) (by decide +kernel), by decide +kernel⟩
theorem qk_1046 : Cond.selects RX5 yX5_refusal yX5_refusal ∈ lw_gd := List.mem_filter.mpr ⟨List.mem_of_getElem? (i := 1046) (by decide +kernel), by decide +kernel⟩
theorem qk_1047 : Cond.code yX5_refusal cX5_refusal 2 (some .int) ∈ lw_gd := List.mem_filter.mpr ⟨List.mem_of_getElem? (i := 1047) (by decide +kernel), by decide +kernel⟩
theorem qk_1049 : Cond.methodLink "QuakeRehearsalLaw" 237 ⟨"QuakeRehearsalLaw", "account", "(LQuakeRehearsal;I[J)I"⟩ ∈ lw_gd := List.mem_filter.mpr ⟨List.mem_of_getElem? (i := 1049) (by decide +kernel), by decide +kernel⟩
theorem qk_1050 : Cond.static ⟨"QuakeRehearsalLaw", "account", "(LQuakeRehearsal;I[J)I"⟩ ∈ lw_gd := List.mem_filter.mpr ⟨List.mem_of_getElem? (i := 1050) (by decide +kernel), by decide +kernel⟩
theorem qk_1052 : Cond.methodLink "QuakeRehearsalLaw" 103 yX5_account ∈ lw_gd := List.mem_filter.mpr ⟨List.mem_of_getElem? (i := 1052) (by decide +kernel), by decide +kernel⟩
theorem qk_1053 : Cond.instanceMethod yX5_account ∈ lw_gd := List.mem_filter.mpr ⟨List.mem_of_getElem? (i := 1053) (by decide +kernel), by decide +kernel⟩
theorem qk_1054 : Cond.selects RX5 yX5_account yX5_account ∈ lw_gd := List.mem_filter.mpr ⟨List.mem_of_getElem? (i := 1054) (by decide +kernel), by decide +kernel⟩
theorem qk_1055 : Cond.code yX5_account cX5_account 2 (some .int) ∈ lw_gd := List.mem_filter.mpr ⟨List.mem_of_getElem? (i := 1055) (by decide +kernel), by decide +kernel⟩
theorem qk_1056 : Cond.methodLink RX5 253 yX0_countOf ∈ lw_gd := List.mem_filter.mpr ⟨List.mem_of_getElem? (i := 1056) (by decide +kernel), by decide +kernel⟩
theorem qk_1057 : Cond.methodLink RX5 256 yX0_countBroken ∈ lw_gd := List.mem_filter.mpr ⟨List.mem_of_getElem? (i := 1057) (by decide +kernel), by decide +kernel⟩
theorem qk_1058 : Cond.instanceMethod yX0_countBroken ∈ lw_gd := List.mem_filter.mpr ⟨List.mem_of_getElem? (i := 1058) (by decide +kernel), by decide +kernel⟩
theorem qk_1059 : Cond.selects RX0 yX0_countBroken yX0_countBroken ∈ lw_gd := List.mem_filter.mpr ⟨List.mem_of_getElem? (i := 1059) (by decide +kernel), by decide +kernel⟩
theorem qk_1060 : Cond.code yX0_countBroken cX0_countBroken 3 (some .int) ∈ lw_gd := List.mem_filter.mpr ⟨List.mem_of_getElem? (i := 1060) (by decide +kernel), by decide +kernel⟩
theorem qk_1062 : Cond.methodLink "QuakeRehearsalLaw" 245 ⟨"QuakeRehearsalLaw", "meanGrade", "(LQuakeRehearsal;[D)I"⟩ ∈ lw_gd := List.mem_filter.mpr ⟨List.mem_of_getElem? (i := 1062) (by decide +kernel), by decide +kernel⟩
theorem qk_1063 : Cond.static ⟨"QuakeRehearsalLaw", "meanGrade", "(LQuakeRehearsal;[D)I"⟩ ∈ lw_gd := List.mem_filter.mpr ⟨List.mem_of_getElem? (i := 1063) (by decide +kernel), by decide +kernel⟩
theorem qk_1065 : Cond.classLink "QuakeRehearsalLaw" 110 "java/lang/ArithmeticException" ∈ lw_gd := List.mem_filter.mpr ⟨List.mem_of_getElem? (i := 1065) (by decide +kernel), by decide +kernel⟩
theorem qk_1067 : Cond.instanceMethod ⟨"java/lang/ArithmeticException", "<init>", "(Ljava/lang/String;)V"⟩ ∈ lw_gd := List.mem_filter.mpr ⟨List.mem_of_getElem? (i := 1067) (by decide +kernel), by decide +kernel⟩
theorem qk_1078 : Cond.selects "java/lang/ArithmeticException" ⟨"java/lang/Throwable", "fillInStackTrace", "(I)Ljava/lang/Throwable;"⟩ ⟨"java/lang/Throwable", "fillInStackTrace", "(I)Ljava/lang/Throwable;"⟩ ∈ lw_gd := List.mem_filter.mpr ⟨List.mem_of_getElem? (i := 1078) (by decide +kernel), by decide +kernel⟩
theorem qk_1079 : Cond.methodLink "QuakeRehearsalLaw" 106 yX5_meanGrade ∈ lw_gd := List.mem_filter.mpr ⟨List.mem_of_getElem? (i := 1079) (by decide +kernel), by decide +kernel⟩
theorem qk_1080 : Cond.instanceMethod yX5_meanGrade ∈ lw_gd := List.mem_filter.mpr ⟨List.mem_of_getElem? (i := 1080) (by decide +kernel), by decide +kernel⟩
theorem qk_1081 : Cond.selects RX5 yX5_meanGrade yX5_meanGrade ∈ lw_gd := List.mem_filter.mpr ⟨List.mem_of_getElem? (i := 1081) (by decide +kernel), by decide +kernel⟩
theorem qk_1082 : Cond.code yX5_meanGrade cX5_meanGrade 2 (some .double) ∈ lw_gd := List.mem_filter.mpr ⟨List.mem_of_getElem? (i := 1082) (by decide +kernel), by decide +kernel⟩
theorem qk_1083 : Cond.classLink RX5 283 "java/lang/ArithmeticException" ∈ lw_gd := List.mem_filter.mpr ⟨List.mem_of_getElem? (i := 1083) (by decide +kernel), by decide +kernel⟩
theorem qk_1085 : Cond.methodLink RX5 287 ⟨"java/lang/ArithmeticException", "<init>", "(Ljava/lang/String;)V"⟩ ∈ lw_gd := List.mem_filter.mpr ⟨List.mem_of_getElem? (i := 1085) (by decide +kernel), by decide +kernel⟩
theorem qk_1086 : Cond.methodLink RX5 288 yX0_sumOfGrades ∈ lw_gd := List.mem_filter.mpr ⟨List.mem_of_getElem? (i := 1086) (by decide +kernel), by decide +kernel⟩
theorem qk_1087 : Cond.instanceMethod yX0_sumOfGrades ∈ lw_gd := List.mem_filter.mpr ⟨List.mem_of_getElem? (i := 1087) (by decide +kernel), by decide +kernel⟩
theorem qk_1088 : Cond.selects RX0 yX0_sumOfGrades yX0_sumOfGrades ∈ lw_gd := List.mem_filter.mpr ⟨List.mem_of_getElem? (i := 1088) (by decide +kernel), by decide +kernel⟩
theorem qk_1089 : Cond.code yX0_sumOfGrades cX0_sumOfGrades 4 (some .int) ∈ lw_gd := List.mem_filter.mpr ⟨List.mem_of_getElem? (i := 1089) (by decide +kernel), by decide +kernel⟩
theorem qk_1090 : Cond.methodLink "QuakeRehearsalLaw" 249 ⟨"QuakeRehearsalLaw", "brokenShare", "(LQuakeRehearsal;[D)I"⟩ ∈ lw_gd := List.mem_filter.mpr ⟨List.mem_of_getElem? (i := 1090) (by decide +kernel), by decide +kernel⟩
theorem qk_1091 : Cond.static ⟨"QuakeRehearsalLaw", "brokenShare", "(LQuakeRehearsal;[D)I"⟩ ∈ lw_gd := List.mem_filter.mpr ⟨List.mem_of_getElem? (i := 1091) (by decide +kernel), by decide +kernel⟩
theorem qk_1093 : Cond.methodLink "QuakeRehearsalLaw" 112 yX5_brokenShare ∈ lw_gd := List.mem_filter.mpr ⟨List.mem_of_getElem? (i := 1093) (by decide +kernel), by decide +kernel⟩
theorem qk_1094 : Cond.instanceMethod yX5_brokenShare ∈ lw_gd := List.mem_filter.mpr ⟨List.mem_of_getElem? (i := 1094) (by decide +kernel), by decide +kernel⟩
theorem qk_1095 : Cond.selects RX5 yX5_brokenShare yX5_brokenShare ∈ lw_gd := List.mem_filter.mpr ⟨List.mem_of_getElem? (i := 1095) (by decide +kernel), by decide +kernel⟩
theorem qk_1096 : Cond.code yX5_brokenShare cX5_brokenShare 1 (some .float) ∈ lw_gd := List.mem_filter.mpr ⟨List.mem_of_getElem? (i := 1096) (by decide +kernel), by decide +kernel⟩
theorem qk_1098 : Cond.methodLink "QuakeRehearsalLaw" 252 ⟨"QuakeRehearsalLaw", "undo", "(LQuakeRehearsal;[J)I"⟩ ∈ lw_gd := List.mem_filter.mpr ⟨List.mem_of_getElem? (i := 1098) (by decide +kernel), by decide +kernel⟩
theorem qk_1099 : Cond.static ⟨"QuakeRehearsalLaw", "undo", "(LQuakeRehearsal;[J)I"⟩ ∈ lw_gd := List.mem_filter.mpr ⟨List.mem_of_getElem? (i := 1099) (by decide +kernel), by decide +kernel⟩
theorem qk_1101 : Cond.methodLink "QuakeRehearsalLaw" 116 yX5_undo ∈ lw_gd := List.mem_filter.mpr ⟨List.mem_of_getElem? (i := 1101) (by decide +kernel), by decide +kernel⟩
theorem qk_1102 : Cond.instanceMethod yX5_undo ∈ lw_gd := List.mem_filter.mpr ⟨List.mem_of_getElem? (i := 1102) (by decide +kernel), by decide +kernel⟩
theorem qk_1103 : Cond.selects RX5 yX5_undo yX5_undo ∈ lw_gd := List.mem_filter.mpr ⟨List.mem_of_getElem? (i := 1103) (by decide +kernel), by decide +kernel⟩
theorem qk_1104 : Cond.code yX5_undo cX5_undo 1 (some .int) ∈ lw_gd := List.mem_filter.mpr ⟨List.mem_of_getElem? (i := 1104) (by decide +kernel), by decide +kernel⟩
theorem qk_1106 : Cond.methodLink RX5 295 yX1_stepBack ∈ lw_gd := List.mem_filter.mpr ⟨List.mem_of_getElem? (i := 1106) (by decide +kernel), by decide +kernel⟩
theorem qk_1107 : Cond.instanceMethod yX1_stepBack ∈ lw_gd := List.mem_filter.mpr ⟨List.mem_of_getElem? (i := 1107) (by decide +kernel), by decide +kernel⟩
theorem qk_1108 : Cond.selects RX1 yX1_stepBack yX1_stepBack ∈ lw_gd := List.mem_filter.mpr ⟨List.mem_of_getElem? (i := 1108) (by decide +kernel), by decide +kernel⟩
theorem qk_1109 : Cond.code yX1_stepBack cX1_stepBack 2 (none) ∈ lw_gd := List.mem_filter.mpr ⟨List.mem_of_getElem? (i := 1109) (by decide +kernel), by decide +kernel⟩
theorem qk_1110 : Cond.methodLink RX1 29 yX1_copyNoteTo ∈ lw_gd := List.mem_filter.mpr ⟨List.mem_of_getElem? (i := 1110) (by decide +kernel), by decide +kernel⟩
theorem qk_1111 : Cond.methodLink "QuakeRehearsalLaw" 259 ⟨"QuakeRehearsalLaw", "restore", "(LQuakeRehearsal;[J)I"⟩ ∈ lw_gd := List.mem_filter.mpr ⟨List.mem_of_getElem? (i := 1111) (by decide +kernel), by decide +kernel⟩
theorem qk_1112 : Cond.static ⟨"QuakeRehearsalLaw", "restore", "(LQuakeRehearsal;[J)I"⟩ ∈ lw_gd := List.mem_filter.mpr ⟨List.mem_of_getElem? (i := 1112) (by decide +kernel), by decide +kernel⟩
theorem qk_1114 : Cond.methodLink "QuakeRehearsalLaw" 119 yX5_restore ∈ lw_gd := List.mem_filter.mpr ⟨List.mem_of_getElem? (i := 1114) (by decide +kernel), by decide +kernel⟩
theorem qk_1115 : Cond.instanceMethod yX5_restore ∈ lw_gd := List.mem_filter.mpr ⟨List.mem_of_getElem? (i := 1115) (by decide +kernel), by decide +kernel⟩
theorem qk_1116 : Cond.selects RX5 yX5_restore yX5_restore ∈ lw_gd := List.mem_filter.mpr ⟨List.mem_of_getElem? (i := 1116) (by decide +kernel), by decide +kernel⟩
theorem qk_1117 : Cond.code yX5_restore cX5_restore 1 (some .int) ∈ lw_gd := List.mem_filter.mpr ⟨List.mem_of_getElem? (i := 1117) (by decide +kernel), by decide +kernel⟩
theorem qk_1119 : Cond.classLink "QuakeRehearsalLaw" 123 "QuakeRehearsalModel" ∈ lw_gd := List.mem_filter.mpr ⟨List.mem_of_getElem? (i := 1119) (by decide +kernel), by decide +kernel⟩
theorem qk_1121 : Cond.methodLink "QuakeRehearsalLaw" 125 yX6_init ∈ lw_gd := List.mem_filter.mpr ⟨List.mem_of_getElem? (i := 1121) (by decide +kernel), by decide +kernel⟩
theorem qk_1122 : Cond.instanceMethod yX6_init ∈ lw_gd := List.mem_filter.mpr ⟨List.mem_of_getElem? (i := 1122) (by decide +kernel), by decide +kernel⟩
theorem qk_1123 : Cond.code yX6_init cX6_init 1 (none) ∈ lw_gd := List.mem_filter.mpr ⟨List.mem_of_getElem? (i := 1123) (by decide +kernel), by decide +kernel⟩
theorem qk_1124 : Cond.methodLink RX6 3 ⟨"java/lang/Object", "<init>", "()V"⟩ ∈ lw_gd := List.mem_filter.mpr ⟨List.mem_of_getElem? (i := 1124) (by decide +kernel), by decide +kernel⟩
theorem qk_1125 : Cond.fieldLink RX6 9 "QuakeRehearsalModel" "s" "[I" ∈ lw_gd := List.mem_filter.mpr ⟨List.mem_of_getElem? (i := 1125) (by decide +kernel), by decide +kernel⟩
theorem qk_1126 : Cond.fieldLink RX6 13 "QuakeRehearsalModel" "before" "[I" ∈ lw_gd := List.mem_filter.mpr ⟨List.mem_of_getElem? (i := 1126) (by decide +kernel), by decide +kernel⟩
theorem qk_1127 : Cond.fieldLink RX6 16 "QuakeRehearsalModel" "aside" "[I" ∈ lw_gd := List.mem_filter.mpr ⟨List.mem_of_getElem? (i := 1127) (by decide +kernel), by decide +kernel⟩
theorem qk_1128 : Cond.fieldLink RX6 19 "QuakeRehearsalModel" "saved" "[I" ∈ lw_gd := List.mem_filter.mpr ⟨List.mem_of_getElem? (i := 1128) (by decide +kernel), by decide +kernel⟩
theorem qk_1129 : Cond.fieldLink RX6 252 "QuakeRehearsalModel" "isSaved" "Z" ∈ lw_gd := List.mem_filter.mpr ⟨List.mem_of_getElem? (i := 1129) (by decide +kernel), by decide +kernel⟩
theorem qk_1130 : Cond.fieldLink RX6 22 "QuakeRehearsalModel" "past" "[I" ∈ lw_gd := List.mem_filter.mpr ⟨List.mem_of_getElem? (i := 1130) (by decide +kernel), by decide +kernel⟩
theorem qk_1131 : Cond.fieldLink RX6 48 "QuakeRehearsalModel" "pastMany" "I" ∈ lw_gd := List.mem_filter.mpr ⟨List.mem_of_getElem? (i := 1131) (by decide +kernel), by decide +kernel⟩
theorem qk_1132 : Cond.fieldLink RX6 39 "QuakeRehearsalModel" "thrown" "I" ∈ lw_gd := List.mem_filter.mpr ⟨List.mem_of_getElem? (i := 1132) (by decide +kernel), by decide +kernel⟩
theorem qk_1133 : Cond.fieldLink RX6 55 "QuakeRehearsalModel" "reason" "I" ∈ lw_gd := List.mem_filter.mpr ⟨List.mem_of_getElem? (i := 1133) (by decide +kernel), by decide +kernel⟩
theorem qk_1134 : Cond.fieldLink RX6 58 "QuakeRehearsalModel" "detail" "I" ∈ lw_gd := List.mem_filter.mpr ⟨List.mem_of_getElem? (i := 1134) (by decide +kernel), by decide +kernel⟩
theorem qk_1135 : Cond.fieldLink RX6 51 "QuakeRehearsalModel" "isRefused" "Z" ∈ lw_gd := List.mem_filter.mpr ⟨List.mem_of_getElem? (i := 1135) (by decide +kernel), by decide +kernel⟩
theorem qk_1136 : Cond.fieldLink RX6 120 "QuakeRehearsalModel" "brokeMany" "I" ∈ lw_gd := List.mem_filter.mpr ⟨List.mem_of_getElem? (i := 1136) (by decide +kernel), by decide +kernel⟩
theorem qk_1137 : Cond.fieldLink RX6 25 "QuakeRehearsalModel" "line" "[C" ∈ lw_gd := List.mem_filter.mpr ⟨List.mem_of_getElem? (i := 1137) (by decide +kernel), by decide +kernel⟩
theorem qk_1138 : Cond.fieldLink RX6 169 "QuakeRehearsalModel" "lineMany" "I" ∈ lw_gd := List.mem_filter.mpr ⟨List.mem_of_getElem? (i := 1138) (by decide +kernel), by decide +kernel⟩
theorem qk_1139 : Cond.fieldLink RX6 29 "QuakeRehearsalModel" "text" "[C" ∈ lw_gd := List.mem_filter.mpr ⟨List.mem_of_getElem? (i := 1139) (by decide +kernel), by decide +kernel⟩
theorem qk_1140 : Cond.fieldLink RX6 191 "QuakeRehearsalModel" "length" "I" ∈ lw_gd := List.mem_filter.mpr ⟨List.mem_of_getElem? (i := 1140) (by decide +kernel), by decide +kernel⟩
theorem qk_1141 : Cond.fieldLink RX6 197 "QuakeRehearsalModel" "at" "I" ∈ lw_gd := List.mem_filter.mpr ⟨List.mem_of_getElem? (i := 1141) (by decide +kernel), by decide +kernel⟩
theorem qk_1142 : Cond.fieldLink RX6 194 "QuakeRehearsalModel" "isWrong" "Z" ∈ lw_gd := List.mem_filter.mpr ⟨List.mem_of_getElem? (i := 1142) (by decide +kernel), by decide +kernel⟩
theorem qk_1143 : Cond.fieldLink RX6 32 "QuakeRehearsalModel" "errorAt" "I" ∈ lw_gd := List.mem_filter.mpr ⟨List.mem_of_getElem? (i := 1143) (by decide +kernel), by decide +kernel⟩
theorem qk_1144 : Cond.fieldLink RX6 36 "QuakeRehearsalModel" "orders" "[I" ∈ lw_gd := List.mem_filter.mpr ⟨List.mem_of_getElem? (i := 1144) (by decide +kernel), by decide +kernel⟩
theorem qk_1145 : Cond.fieldLink RX6 232 "QuakeRehearsalModel" "orderMany" "I" ∈ lw_gd := List.mem_filter.mpr ⟨List.mem_of_getElem? (i := 1145) (by decide +kernel), by decide +kernel⟩
theorem qk_1189 : Cond.methodLink "QuakeRehearsalLaw" 132 yX6_thrown ∈ lw_gd := List.mem_filter.mpr ⟨List.mem_of_getElem? (i := 1189) (by decide +kernel), by decide +kernel⟩
theorem qk_1190 : Cond.instanceMethod yX6_thrown ∈ lw_gd := List.mem_filter.mpr ⟨List.mem_of_getElem? (i := 1190) (by decide +kernel), by decide +kernel⟩
theorem qk_1191 : Cond.selects RX6 yX6_thrown yX6_thrown ∈ lw_gd := List.mem_filter.mpr ⟨List.mem_of_getElem? (i := 1191) (by decide +kernel), by decide +kernel⟩
theorem qk_1192 : Cond.code yX6_thrown cX6_thrown 1 (some .int) ∈ lw_gd := List.mem_filter.mpr ⟨List.mem_of_getElem? (i := 1192) (by decide +kernel), by decide +kernel⟩
theorem qk_1193 : Cond.methodLink "QuakeRehearsalLaw" 236 yX6_refusal ∈ lw_gd := List.mem_filter.mpr ⟨List.mem_of_getElem? (i := 1193) (by decide +kernel), by decide +kernel⟩
theorem qk_1194 : Cond.instanceMethod yX6_refusal ∈ lw_gd := List.mem_filter.mpr ⟨List.mem_of_getElem? (i := 1194) (by decide +kernel), by decide +kernel⟩
theorem qk_1195 : Cond.selects RX6 yX6_refusal yX6_refusal ∈ lw_gd := List.mem_filter.mpr ⟨List.mem_of_getElem? (i := 1195) (by decide +kernel), by decide +kernel⟩
theorem qk_1196 : Cond.code yX6_refusal cX6_refusal 2 (some .int) ∈ lw_gd := List.mem_filter.mpr ⟨List.mem_of_getElem? (i := 1196) (by decide +kernel), by decide +kernel⟩
theorem qk_1197 : Cond.methodLink "QuakeRehearsalLaw" 131 yX6_cup ∈ lw_gd := List.mem_filter.mpr ⟨List.mem_of_getElem? (i := 1197) (by decide +kernel), by decide +kernel⟩
theorem qk_1198 : Cond.instanceMethod yX6_cup ∈ lw_gd := List.mem_filter.mpr ⟨List.mem_of_getElem? (i := 1198) (by decide +kernel), by decide +kernel⟩
theorem qk_1199 : Cond.selects RX6 yX6_cup yX6_cup ∈ lw_gd := List.mem_filter.mpr ⟨List.mem_of_getElem? (i := 1199) (by decide +kernel), by decide +kernel⟩
theorem qk_1200 : Cond.code yX6_cup cX6_cup 3 (some .int) ∈ lw_gd := List.mem_filter.mpr ⟨List.mem_of_getElem? (i := 1200) (by decide +kernel), by decide +kernel⟩
theorem qk_1201 : Cond.methodLink RX6 88 yX6_keep ∈ lw_gd := List.mem_filter.mpr ⟨List.mem_of_getElem? (i := 1201) (by decide +kernel), by decide +kernel⟩
theorem qk_1203 : Cond.instanceMethod yX6_keep ∈ lw_gd := List.mem_filter.mpr ⟨List.mem_of_getElem? (i := 1203) (by decide +kernel), by decide +kernel⟩
theorem qk_1204 : Cond.code yX6_keep cX6_keep 1 (none) ∈ lw_gd := List.mem_filter.mpr ⟨List.mem_of_getElem? (i := 1204) (by decide +kernel), by decide +kernel⟩
theorem qk_1205 : Cond.methodLink RX6 42 ⟨"java/lang/System", "arraycopy", "(Ljava/lang/Object;ILjava/lang/Object;II)V"⟩ ∈ lw_gd := List.mem_filter.mpr ⟨List.mem_of_getElem? (i := 1205) (by decide +kernel), by decide +kernel⟩
theorem qk_1206 : Cond.static ⟨"java/lang/System", "arraycopy", "(Ljava/lang/Object;ILjava/lang/Object;II)V"⟩ ∈ lw_gd := List.mem_filter.mpr ⟨List.mem_of_getElem? (i := 1206) (by decide +kernel), by decide +kernel⟩
theorem qk_1208 : Cond.methodLink RX6 91 yX6_comes ∈ lw_gd := List.mem_filter.mpr ⟨List.mem_of_getElem? (i := 1208) (by decide +kernel), by decide +kernel⟩
theorem qk_1210 : Cond.instanceMethod yX6_comes ∈ lw_gd := List.mem_filter.mpr ⟨List.mem_of_getElem? (i := 1210) (by decide +kernel), by decide +kernel⟩
theorem qk_1211 : Cond.code yX6_comes cX6_comes 6 (some .int) ∈ lw_gd := List.mem_filter.mpr ⟨List.mem_of_getElem? (i := 1211) (by decide +kernel), by decide +kernel⟩
theorem qk_1212 : Cond.methodLink RX6 69 yX6_isFloor ∈ lw_gd := List.mem_filter.mpr ⟨List.mem_of_getElem? (i := 1212) (by decide +kernel), by decide +kernel⟩
theorem qk_1213 : Cond.static yX6_isFloor ∈ lw_gd := List.mem_filter.mpr ⟨List.mem_of_getElem? (i := 1213) (by decide +kernel), by decide +kernel⟩
theorem qk_1214 : Cond.code yX6_isFloor cX6_isFloor 1 (some .boolean) ∈ lw_gd := List.mem_filter.mpr ⟨List.mem_of_getElem? (i := 1214) (by decide +kernel), by decide +kernel⟩
theorem qk_1215 : Cond.methodLink RX6 61 yX6_in ∈ lw_gd := List.mem_filter.mpr ⟨List.mem_of_getElem? (i := 1215) (by decide +kernel), by decide +kernel⟩
theorem qk_1216 : Cond.static yX6_in ∈ lw_gd := List.mem_filter.mpr ⟨List.mem_of_getElem? (i := 1216) (by decide +kernel), by decide +kernel⟩
theorem qk_1217 : Cond.code yX6_in cX6_in 3 (some .boolean) ∈ lw_gd := List.mem_filter.mpr ⟨List.mem_of_getElem? (i := 1217) (by decide +kernel), by decide +kernel⟩
theorem qk_1218 : Cond.methodLink RX6 73 yX6_fails ∈ lw_gd := List.mem_filter.mpr ⟨List.mem_of_getElem? (i := 1218) (by decide +kernel), by decide +kernel⟩
theorem qk_1220 : Cond.instanceMethod yX6_fails ∈ lw_gd := List.mem_filter.mpr ⟨List.mem_of_getElem? (i := 1220) (by decide +kernel), by decide +kernel⟩
theorem qk_1221 : Cond.code yX6_fails cX6_fails 2 (some .int) ∈ lw_gd := List.mem_filter.mpr ⟨List.mem_of_getElem? (i := 1221) (by decide +kernel), by decide +kernel⟩
theorem qk_1222 : Cond.methodLink RX6 77 yX6_refuse ∈ lw_gd := List.mem_filter.mpr ⟨List.mem_of_getElem? (i := 1222) (by decide +kernel), by decide +kernel⟩
theorem qk_1224 : Cond.instanceMethod yX6_refuse ∈ lw_gd := List.mem_filter.mpr ⟨List.mem_of_getElem? (i := 1224) (by decide +kernel), by decide +kernel⟩
theorem qk_1225 : Cond.code yX6_refuse cX6_refuse 4 (some .int) ∈ lw_gd := List.mem_filter.mpr ⟨List.mem_of_getElem? (i := 1225) (by decide +kernel), by decide +kernel⟩
theorem qk_1226 : Cond.methodLink RX6 81 yX6_there ∈ lw_gd := List.mem_filter.mpr ⟨List.mem_of_getElem? (i := 1226) (by decide +kernel), by decide +kernel⟩
theorem qk_1228 : Cond.instanceMethod yX6_there ∈ lw_gd := List.mem_filter.mpr ⟨List.mem_of_getElem? (i := 1228) (by decide +kernel), by decide +kernel⟩
theorem qk_1229 : Cond.code yX6_there cX6_there 5 (some .int) ∈ lw_gd := List.mem_filter.mpr ⟨List.mem_of_getElem? (i := 1229) (by decide +kernel), by decide +kernel⟩
theorem qk_1230 : Cond.methodLink RX6 65 yX6_of ∈ lw_gd := List.mem_filter.mpr ⟨List.mem_of_getElem? (i := 1230) (by decide +kernel), by decide +kernel⟩
theorem qk_1232 : Cond.instanceMethod yX6_of ∈ lw_gd := List.mem_filter.mpr ⟨List.mem_of_getElem? (i := 1232) (by decide +kernel), by decide +kernel⟩
theorem qk_1233 : Cond.code yX6_of cX6_of 3 (some .int) ∈ lw_gd := List.mem_filter.mpr ⟨List.mem_of_getElem? (i := 1233) (by decide +kernel), by decide +kernel⟩
theorem qk_1234 : Cond.methodLink RX6 84 yX6_sets ∈ lw_gd := List.mem_filter.mpr ⟨List.mem_of_getElem? (i := 1234) (by decide +kernel), by decide +kernel⟩
theorem qk_1236 : Cond.instanceMethod yX6_sets ∈ lw_gd := List.mem_filter.mpr ⟨List.mem_of_getElem? (i := 1236) (by decide +kernel), by decide +kernel⟩
theorem qk_1237 : Cond.code yX6_sets cX6_sets 4 (none) ∈ lw_gd := List.mem_filter.mpr ⟨List.mem_of_getElem? (i := 1237) (by decide +kernel), by decide +kernel⟩
theorem qk_1238 : Cond.methodLink RX6 94 yX6_ends ∈ lw_gd := List.mem_filter.mpr ⟨List.mem_of_getElem? (i := 1238) (by decide +kernel), by decide +kernel⟩
theorem qk_1240 : Cond.instanceMethod yX6_ends ∈ lw_gd := List.mem_filter.mpr ⟨List.mem_of_getElem? (i := 1240) (by decide +kernel), by decide +kernel⟩
theorem qk_1241 : Cond.code yX6_ends cX6_ends 2 (some .int) ∈ lw_gd := List.mem_filter.mpr ⟨List.mem_of_getElem? (i := 1241) (by decide +kernel), by decide +kernel⟩
theorem qk_1242 : Cond.methodLink "QuakeRehearsalLaw" 137 yX6_lamp ∈ lw_gd := List.mem_filter.mpr ⟨List.mem_of_getElem? (i := 1242) (by decide +kernel), by decide +kernel⟩
theorem qk_1243 : Cond.instanceMethod yX6_lamp ∈ lw_gd := List.mem_filter.mpr ⟨List.mem_of_getElem? (i := 1243) (by decide +kernel), by decide +kernel⟩
theorem qk_1244 : Cond.selects RX6 yX6_lamp yX6_lamp ∈ lw_gd := List.mem_filter.mpr ⟨List.mem_of_getElem? (i := 1244) (by decide +kernel), by decide +kernel⟩
theorem qk_1245 : Cond.code yX6_lamp cX6_lamp 3 (some .int) ∈ lw_gd := List.mem_filter.mpr ⟨List.mem_of_getElem? (i := 1245) (by decide +kernel), by decide +kernel⟩
theorem qk_1246 : Cond.methodLink "QuakeRehearsalLaw" 140 yX6_cat ∈ lw_gd := List.mem_filter.mpr ⟨List.mem_of_getElem? (i := 1246) (by decide +kernel), by decide +kernel⟩
theorem qk_1247 : Cond.instanceMethod yX6_cat ∈ lw_gd := List.mem_filter.mpr ⟨List.mem_of_getElem? (i := 1247) (by decide +kernel), by decide +kernel⟩
theorem qk_1248 : Cond.selects RX6 yX6_cat yX6_cat ∈ lw_gd := List.mem_filter.mpr ⟨List.mem_of_getElem? (i := 1248) (by decide +kernel), by decide +kernel⟩
theorem qk_1249 : Cond.code yX6_cat cX6_cat 3 (some .int) ∈ lw_gd := List.mem_filter.mpr ⟨List.mem_of_getElem? (i := 1249) (by decide +kernel), by decide +kernel⟩
theorem qk_1250 : Cond.methodLink "QuakeRehearsalLaw" 144 yX6_take ∈ lw_gd := List.mem_filter.mpr ⟨List.mem_of_getElem? (i := 1250) (by decide +kernel), by decide +kernel⟩
theorem qk_1251 : Cond.instanceMethod yX6_take ∈ lw_gd := List.mem_filter.mpr ⟨List.mem_of_getElem? (i := 1251) (by decide +kernel), by decide +kernel⟩
theorem qk_1252 : Cond.selects RX6 yX6_take yX6_take ∈ lw_gd := List.mem_filter.mpr ⟨List.mem_of_getElem? (i := 1252) (by decide +kernel), by decide +kernel⟩
theorem qk_1253 : Cond.code yX6_take cX6_take 2 (some .int) ∈ lw_gd := List.mem_filter.mpr ⟨List.mem_of_getElem? (i := 1253) (by decide +kernel), by decide +kernel⟩
theorem qk_1254 : Cond.methodLink RX6 100 yX6_doTake ∈ lw_gd := List.mem_filter.mpr ⟨List.mem_of_getElem? (i := 1254) (by decide +kernel), by decide +kernel⟩
theorem qk_1256 : Cond.instanceMethod yX6_doTake ∈ lw_gd := List.mem_filter.mpr ⟨List.mem_of_getElem? (i := 1256) (by decide +kernel), by decide +kernel⟩
theorem qk_1257 : Cond.code yX6_doTake cX6_doTake 4 (some .int) ∈ lw_gd := List.mem_filter.mpr ⟨List.mem_of_getElem? (i := 1257) (by decide +kernel), by decide +kernel⟩
theorem qk_1258 : Cond.methodLink RX6 97 yX6_isProp ∈ lw_gd := List.mem_filter.mpr ⟨List.mem_of_getElem? (i := 1258) (by decide +kernel), by decide +kernel⟩
theorem qk_1260 : Cond.instanceMethod yX6_isProp ∈ lw_gd := List.mem_filter.mpr ⟨List.mem_of_getElem? (i := 1260) (by decide +kernel), by decide +kernel⟩
theorem qk_1261 : Cond.code yX6_isProp cX6_isProp 2 (some .boolean) ∈ lw_gd := List.mem_filter.mpr ⟨List.mem_of_getElem? (i := 1261) (by decide +kernel), by decide +kernel⟩
theorem qk_1262 : Cond.methodLink "QuakeRehearsalLaw" 147 yX6_cue ∈ lw_gd := List.mem_filter.mpr ⟨List.mem_of_getElem? (i := 1262) (by decide +kernel), by decide +kernel⟩
theorem qk_1263 : Cond.instanceMethod yX6_cue ∈ lw_gd := List.mem_filter.mpr ⟨List.mem_of_getElem? (i := 1263) (by decide +kernel), by decide +kernel⟩
theorem qk_1264 : Cond.selects RX6 yX6_cue yX6_cue ∈ lw_gd := List.mem_filter.mpr ⟨List.mem_of_getElem? (i := 1264) (by decide +kernel), by decide +kernel⟩
theorem qk_1265 : Cond.code yX6_cue cX6_cue 3 (some .int) ∈ lw_gd := List.mem_filter.mpr ⟨List.mem_of_getElem? (i := 1265) (by decide +kernel), by decide +kernel⟩
theorem qk_1266 : Cond.methodLink RX6 103 yX6_doCue ∈ lw_gd := List.mem_filter.mpr ⟨List.mem_of_getElem? (i := 1266) (by decide +kernel), by decide +kernel⟩
theorem qk_1268 : Cond.instanceMethod yX6_doCue ∈ lw_gd := List.mem_filter.mpr ⟨List.mem_of_getElem? (i := 1268) (by decide +kernel), by decide +kernel⟩
theorem qk_1269 : Cond.code yX6_doCue cX6_doCue 4 (some .int) ∈ lw_gd := List.mem_filter.mpr ⟨List.mem_of_getElem? (i := 1269) (by decide +kernel), by decide +kernel⟩
theorem qk_1270 : Cond.methodLink "QuakeRehearsalLaw" 150 yX6_set ∈ lw_gd := List.mem_filter.mpr ⟨List.mem_of_getElem? (i := 1270) (by decide +kernel), by decide +kernel⟩
theorem qk_1271 : Cond.instanceMethod yX6_set ∈ lw_gd := List.mem_filter.mpr ⟨List.mem_of_getElem? (i := 1271) (by decide +kernel), by decide +kernel⟩
theorem qk_1272 : Cond.selects RX6 yX6_set yX6_set ∈ lw_gd := List.mem_filter.mpr ⟨List.mem_of_getElem? (i := 1272) (by decide +kernel), by decide +kernel⟩
theorem qk_1273 : Cond.code yX6_set cX6_set 2 (some .int) ∈ lw_gd := List.mem_filter.mpr ⟨List.mem_of_getElem? (i := 1273) (by decide +kernel), by decide +kernel⟩
theorem qk_1274 : Cond.methodLink RX6 109 yX6_doSet ∈ lw_gd := List.mem_filter.mpr ⟨List.mem_of_getElem? (i := 1274) (by decide +kernel), by decide +kernel⟩
theorem qk_1276 : Cond.instanceMethod yX6_doSet ∈ lw_gd := List.mem_filter.mpr ⟨List.mem_of_getElem? (i := 1276) (by decide +kernel), by decide +kernel⟩
theorem qk_1277 : Cond.code yX6_doSet cX6_doSet 3 (some .int) ∈ lw_gd := List.mem_filter.mpr ⟨List.mem_of_getElem? (i := 1277) (by decide +kernel), by decide +kernel⟩
theorem qk_1278 : Cond.methodLink RX6 106 yX6_isStrength ∈ lw_gd := List.mem_filter.mpr ⟨List.mem_of_getElem? (i := 1278) (by decide +kernel), by decide +kernel⟩
theorem qk_1279 : Cond.static yX6_isStrength ∈ lw_gd := List.mem_filter.mpr ⟨List.mem_of_getElem? (i := 1279) (by decide +kernel), by decide +kernel⟩
theorem qk_1280 : Cond.code yX6_isStrength cX6_isStrength 1 (some .boolean) ∈ lw_gd := List.mem_filter.mpr ⟨List.mem_of_getElem? (i := 1280) (by decide +kernel), by decide +kernel⟩
theorem qk_1281 : Cond.methodLink "QuakeRehearsalLaw" 154 yX6_shock ∈ lw_gd := List.mem_filter.mpr ⟨List.mem_of_getElem? (i := 1281) (by decide +kernel), by decide +kernel⟩
theorem qk_1282 : Cond.instanceMethod yX6_shock ∈ lw_gd := List.mem_filter.mpr ⟨List.mem_of_getElem? (i := 1282) (by decide +kernel), by decide +kernel⟩
theorem qk_1283 : Cond.selects RX6 yX6_shock yX6_shock ∈ lw_gd := List.mem_filter.mpr ⟨List.mem_of_getElem? (i := 1283) (by decide +kernel), by decide +kernel⟩
theorem qk_1284 : Cond.code yX6_shock cX6_shock 1 (some .int) ∈ lw_gd := List.mem_filter.mpr ⟨List.mem_of_getElem? (i := 1284) (by decide +kernel), by decide +kernel⟩
theorem qk_1285 : Cond.methodLink RX6 137 yX6_shocks ∈ lw_gd := List.mem_filter.mpr ⟨List.mem_of_getElem? (i := 1285) (by decide +kernel), by decide +kernel⟩
theorem qk_1287 : Cond.instanceMethod yX6_shocks ∈ lw_gd := List.mem_filter.mpr ⟨List.mem_of_getElem? (i := 1287) (by decide +kernel), by decide +kernel⟩
theorem qk_1288 : Cond.code yX6_shocks cX6_shocks 9 (some .int) ∈ lw_gd := List.mem_filter.mpr ⟨List.mem_of_getElem? (i := 1288) (by decide +kernel), by decide +kernel⟩
theorem qk_1289 : Cond.methodLink RX6 123 yX6_strengthOn ∈ lw_gd := List.mem_filter.mpr ⟨List.mem_of_getElem? (i := 1289) (by decide +kernel), by decide +kernel⟩
theorem qk_1291 : Cond.instanceMethod yX6_strengthOn ∈ lw_gd := List.mem_filter.mpr ⟨List.mem_of_getElem? (i := 1291) (by decide +kernel), by decide +kernel⟩
theorem qk_1292 : Cond.code yX6_strengthOn cX6_strengthOn 5 (some .int) ∈ lw_gd := List.mem_filter.mpr ⟨List.mem_of_getElem? (i := 1292) (by decide +kernel), by decide +kernel⟩
theorem qk_1293 : Cond.methodLink RX6 112 ⟨"java/lang/Math", "max", "(II)I"⟩ ∈ lw_gd := List.mem_filter.mpr ⟨List.mem_of_getElem? (i := 1293) (by decide +kernel), by decide +kernel⟩
theorem qk_1294 : Cond.static ⟨"java/lang/Math", "max", "(II)I"⟩ ∈ lw_gd := List.mem_filter.mpr ⟨List.mem_of_getElem? (i := 1294) (by decide +kernel), by decide +kernel⟩
theorem qk_1295 : Cond.code Lib.Math.max.name Lib.Math.max.code 2 (some .int) ∈ lw_gd := List.mem_filter.mpr ⟨List.mem_of_getElem? (i := 1295) (by decide +kernel), by decide +kernel⟩
theorem qk_1296 : Cond.methodLink RX6 126 yX6_shakes ∈ lw_gd := List.mem_filter.mpr ⟨List.mem_of_getElem? (i := 1296) (by decide +kernel), by decide +kernel⟩
theorem qk_1298 : Cond.instanceMethod yX6_shakes ∈ lw_gd := List.mem_filter.mpr ⟨List.mem_of_getElem? (i := 1298) (by decide +kernel), by decide +kernel⟩
theorem qk_1299 : Cond.code yX6_shakes cX6_shakes 4 (some .boolean) ∈ lw_gd := List.mem_filter.mpr ⟨List.mem_of_getElem? (i := 1299) (by decide +kernel), by decide +kernel⟩
theorem qk_1300 : Cond.methodLink RX6 130 yX6_swings ∈ lw_gd := List.mem_filter.mpr ⟨List.mem_of_getElem? (i := 1300) (by decide +kernel), by decide +kernel⟩
theorem qk_1302 : Cond.instanceMethod yX6_swings ∈ lw_gd := List.mem_filter.mpr ⟨List.mem_of_getElem? (i := 1302) (by decide +kernel), by decide +kernel⟩
theorem qk_1303 : Cond.code yX6_swings cX6_swings 5 (some .boolean) ∈ lw_gd := List.mem_filter.mpr ⟨List.mem_of_getElem? (i := 1303) (by decide +kernel), by decide +kernel⟩
theorem qk_1304 : Cond.methodLink RX6 133 yX6_marks ∈ lw_gd := List.mem_filter.mpr ⟨List.mem_of_getElem? (i := 1304) (by decide +kernel), by decide +kernel⟩
theorem qk_1306 : Cond.instanceMethod yX6_marks ∈ lw_gd := List.mem_filter.mpr ⟨List.mem_of_getElem? (i := 1306) (by decide +kernel), by decide +kernel⟩
theorem qk_1307 : Cond.code yX6_marks cX6_marks 6 (some .int) ∈ lw_gd := List.mem_filter.mpr ⟨List.mem_of_getElem? (i := 1307) (by decide +kernel), by decide +kernel⟩
theorem qk_1308 : Cond.methodLink RX6 117 ⟨"java/lang/Math", "abs", "(I)I"⟩ ∈ lw_gd := List.mem_filter.mpr ⟨List.mem_of_getElem? (i := 1308) (by decide +kernel), by decide +kernel⟩
theorem qk_1309 : Cond.methodLink "QuakeRehearsalLaw" 157 yX6_add ∈ lw_gd := List.mem_filter.mpr ⟨List.mem_of_getElem? (i := 1309) (by decide +kernel), by decide +kernel⟩
theorem qk_1310 : Cond.instanceMethod yX6_add ∈ lw_gd := List.mem_filter.mpr ⟨List.mem_of_getElem? (i := 1310) (by decide +kernel), by decide +kernel⟩
theorem qk_1311 : Cond.selects RX6 yX6_add yX6_add ∈ lw_gd := List.mem_filter.mpr ⟨List.mem_of_getElem? (i := 1311) (by decide +kernel), by decide +kernel⟩
theorem qk_1312 : Cond.code yX6_add cX6_add 2 (some .int) ∈ lw_gd := List.mem_filter.mpr ⟨List.mem_of_getElem? (i := 1312) (by decide +kernel), by decide +kernel⟩
theorem qk_1313 : Cond.methodLink RX6 140 yX6_doAdd ∈ lw_gd := List.mem_filter.mpr ⟨List.mem_of_getElem? (i := 1313) (by decide +kernel), by decide +kernel⟩
theorem qk_1315 : Cond.instanceMethod yX6_doAdd ∈ lw_gd := List.mem_filter.mpr ⟨List.mem_of_getElem? (i := 1315) (by decide +kernel), by decide +kernel⟩
theorem qk_1316 : Cond.code yX6_doAdd cX6_doAdd 3 (some .int) ∈ lw_gd := List.mem_filter.mpr ⟨List.mem_of_getElem? (i := 1316) (by decide +kernel), by decide +kernel⟩
theorem qk_1317 : Cond.methodLink "QuakeRehearsalLaw" 161 yX6_perform ∈ lw_gd := List.mem_filter.mpr ⟨List.mem_of_getElem? (i := 1317) (by decide +kernel), by decide +kernel⟩
theorem qk_1318 : Cond.instanceMethod yX6_perform ∈ lw_gd := List.mem_filter.mpr ⟨List.mem_of_getElem? (i := 1318) (by decide +kernel), by decide +kernel⟩
theorem qk_1319 : Cond.selects RX6 yX6_perform yX6_perform ∈ lw_gd := List.mem_filter.mpr ⟨List.mem_of_getElem? (i := 1319) (by decide +kernel), by decide +kernel⟩
theorem qk_1320 : Cond.code yX6_perform cX6_perform 1 (some .int) ∈ lw_gd := List.mem_filter.mpr ⟨List.mem_of_getElem? (i := 1320) (by decide +kernel), by decide +kernel⟩
theorem qk_1321 : Cond.methodLink RX6 146 yX6_doPerform ∈ lw_gd := List.mem_filter.mpr ⟨List.mem_of_getElem? (i := 1321) (by decide +kernel), by decide +kernel⟩
theorem qk_1323 : Cond.instanceMethod yX6_doPerform ∈ lw_gd := List.mem_filter.mpr ⟨List.mem_of_getElem? (i := 1323) (by decide +kernel), by decide +kernel⟩
theorem qk_1324 : Cond.code yX6_doPerform cX6_doPerform 7 (some .int) ∈ lw_gd := List.mem_filter.mpr ⟨List.mem_of_getElem? (i := 1324) (by decide +kernel), by decide +kernel⟩
theorem qk_1325 : Cond.methodLink RX6 143 yX6_kindMany ∈ lw_gd := List.mem_filter.mpr ⟨List.mem_of_getElem? (i := 1325) (by decide +kernel), by decide +kernel⟩
theorem qk_1327 : Cond.instanceMethod yX6_kindMany ∈ lw_gd := List.mem_filter.mpr ⟨List.mem_of_getElem? (i := 1327) (by decide +kernel), by decide +kernel⟩
theorem qk_1328 : Cond.code yX6_kindMany cX6_kindMany 4 (some .int) ∈ lw_gd := List.mem_filter.mpr ⟨List.mem_of_getElem? (i := 1328) (by decide +kernel), by decide +kernel⟩
theorem qk_1329 : Cond.methodLink "QuakeRehearsalLaw" 165 yX6_quiet ∈ lw_gd := List.mem_filter.mpr ⟨List.mem_of_getElem? (i := 1329) (by decide +kernel), by decide +kernel⟩
theorem qk_1330 : Cond.instanceMethod yX6_quiet ∈ lw_gd := List.mem_filter.mpr ⟨List.mem_of_getElem? (i := 1330) (by decide +kernel), by decide +kernel⟩
theorem qk_1331 : Cond.selects RX6 yX6_quiet yX6_quiet ∈ lw_gd := List.mem_filter.mpr ⟨List.mem_of_getElem? (i := 1331) (by decide +kernel), by decide +kernel⟩
theorem qk_1332 : Cond.code yX6_quiet cX6_quiet 1 (some .int) ∈ lw_gd := List.mem_filter.mpr ⟨List.mem_of_getElem? (i := 1332) (by decide +kernel), by decide +kernel⟩
theorem qk_1333 : Cond.methodLink RX6 150 yX6_doQuiet ∈ lw_gd := List.mem_filter.mpr ⟨List.mem_of_getElem? (i := 1333) (by decide +kernel), by decide +kernel⟩
theorem qk_1335 : Cond.instanceMethod yX6_doQuiet ∈ lw_gd := List.mem_filter.mpr ⟨List.mem_of_getElem? (i := 1335) (by decide +kernel), by decide +kernel⟩
theorem qk_1336 : Cond.code yX6_doQuiet cX6_doQuiet 3 (some .int) ∈ lw_gd := List.mem_filter.mpr ⟨List.mem_of_getElem? (i := 1336) (by decide +kernel), by decide +kernel⟩
theorem qk_1337 : Cond.methodLink "QuakeRehearsalLaw" 168 yX6_propOf ∈ lw_gd := List.mem_filter.mpr ⟨List.mem_of_getElem? (i := 1337) (by decide +kernel), by decide +kernel⟩
theorem qk_1338 : Cond.instanceMethod yX6_propOf ∈ lw_gd := List.mem_filter.mpr ⟨List.mem_of_getElem? (i := 1338) (by decide +kernel), by decide +kernel⟩
theorem qk_1339 : Cond.selects RX6 yX6_propOf yX6_propOf ∈ lw_gd := List.mem_filter.mpr ⟨List.mem_of_getElem? (i := 1339) (by decide +kernel), by decide +kernel⟩
theorem qk_1340 : Cond.code yX6_propOf cX6_propOf 3 (some .int) ∈ lw_gd := List.mem_filter.mpr ⟨List.mem_of_getElem? (i := 1340) (by decide +kernel), by decide +kernel⟩
theorem qk_1341 : Cond.methodLink "QuakeRehearsalLaw" 171 yX6_programme ∈ lw_gd := List.mem_filter.mpr ⟨List.mem_of_getElem? (i := 1341) (by decide +kernel), by decide +kernel⟩
theorem qk_1342 : Cond.instanceMethod yX6_programme ∈ lw_gd := List.mem_filter.mpr ⟨List.mem_of_getElem? (i := 1342) (by decide +kernel), by decide +kernel⟩
theorem qk_1343 : Cond.selects RX6 yX6_programme yX6_programme ∈ lw_gd := List.mem_filter.mpr ⟨List.mem_of_getElem? (i := 1343) (by decide +kernel), by decide +kernel⟩
theorem qk_1344 : Cond.code yX6_programme cX6_programme 2 (some .int) ∈ lw_gd := List.mem_filter.mpr ⟨List.mem_of_getElem? (i := 1344) (by decide +kernel), by decide +kernel⟩
theorem qk_1345 : Cond.methodLink "QuakeRehearsalLaw" 175 yX6_on ∈ lw_gd := List.mem_filter.mpr ⟨List.mem_of_getElem? (i := 1345) (by decide +kernel), by decide +kernel⟩
theorem qk_1346 : Cond.instanceMethod yX6_on ∈ lw_gd := List.mem_filter.mpr ⟨List.mem_of_getElem? (i := 1346) (by decide +kernel), by decide +kernel⟩
theorem qk_1347 : Cond.selects RX6 yX6_on yX6_on ∈ lw_gd := List.mem_filter.mpr ⟨List.mem_of_getElem? (i := 1347) (by decide +kernel), by decide +kernel⟩
theorem qk_1348 : Cond.code yX6_on cX6_on 4 (some .int) ∈ lw_gd := List.mem_filter.mpr ⟨List.mem_of_getElem? (i := 1348) (by decide +kernel), by decide +kernel⟩
theorem qk_1349 : Cond.methodLink "QuakeRehearsalLaw" 178 yX6_wouldMark ∈ lw_gd := List.mem_filter.mpr ⟨List.mem_of_getElem? (i := 1349) (by decide +kernel), by decide +kernel⟩
theorem qk_1350 : Cond.instanceMethod yX6_wouldMark ∈ lw_gd := List.mem_filter.mpr ⟨List.mem_of_getElem? (i := 1350) (by decide +kernel), by decide +kernel⟩
theorem qk_1351 : Cond.selects RX6 yX6_wouldMark yX6_wouldMark ∈ lw_gd := List.mem_filter.mpr ⟨List.mem_of_getElem? (i := 1351) (by decide +kernel), by decide +kernel⟩
theorem qk_1352 : Cond.code yX6_wouldMark cX6_wouldMark 2 (some .int) ∈ lw_gd := List.mem_filter.mpr ⟨List.mem_of_getElem? (i := 1352) (by decide +kernel), by decide +kernel⟩
theorem qk_1353 : Cond.methodLink RX6 159 yX6_would ∈ lw_gd := List.mem_filter.mpr ⟨List.mem_of_getElem? (i := 1353) (by decide +kernel), by decide +kernel⟩
theorem qk_1355 : Cond.instanceMethod yX6_would ∈ lw_gd := List.mem_filter.mpr ⟨List.mem_of_getElem? (i := 1355) (by decide +kernel), by decide +kernel⟩
theorem qk_1356 : Cond.code yX6_would cX6_would 4 (some .int) ∈ lw_gd := List.mem_filter.mpr ⟨List.mem_of_getElem? (i := 1356) (by decide +kernel), by decide +kernel⟩
theorem qk_1357 : Cond.methodLink RX6 153 yX6_thinks ∈ lw_gd := List.mem_filter.mpr ⟨List.mem_of_getElem? (i := 1357) (by decide +kernel), by decide +kernel⟩
theorem qk_1359 : Cond.instanceMethod yX6_thinks ∈ lw_gd := List.mem_filter.mpr ⟨List.mem_of_getElem? (i := 1359) (by decide +kernel), by decide +kernel⟩
theorem qk_1360 : Cond.code yX6_thinks cX6_thinks 1 (none) ∈ lw_gd := List.mem_filter.mpr ⟨List.mem_of_getElem? (i := 1360) (by decide +kernel), by decide +kernel⟩
theorem qk_1361 : Cond.methodLink RX6 156 yX6_forgets ∈ lw_gd := List.mem_filter.mpr ⟨List.mem_of_getElem? (i := 1361) (by decide +kernel), by decide +kernel⟩
theorem qk_1363 : Cond.instanceMethod yX6_forgets ∈ lw_gd := List.mem_filter.mpr ⟨List.mem_of_getElem? (i := 1363) (by decide +kernel), by decide +kernel⟩
theorem qk_1364 : Cond.code yX6_forgets cX6_forgets 1 (none) ∈ lw_gd := List.mem_filter.mpr ⟨List.mem_of_getElem? (i := 1364) (by decide +kernel), by decide +kernel⟩
theorem qk_1365 : Cond.methodLink "QuakeRehearsalLaw" 182 yX6_wouldBreak ∈ lw_gd := List.mem_filter.mpr ⟨List.mem_of_getElem? (i := 1365) (by decide +kernel), by decide +kernel⟩
theorem qk_1366 : Cond.instanceMethod yX6_wouldBreak ∈ lw_gd := List.mem_filter.mpr ⟨List.mem_of_getElem? (i := 1366) (by decide +kernel), by decide +kernel⟩
theorem qk_1367 : Cond.selects RX6 yX6_wouldBreak yX6_wouldBreak ∈ lw_gd := List.mem_filter.mpr ⟨List.mem_of_getElem? (i := 1367) (by decide +kernel), by decide +kernel⟩
theorem qk_1368 : Cond.code yX6_wouldBreak cX6_wouldBreak 3 (some .int) ∈ lw_gd := List.mem_filter.mpr ⟨List.mem_of_getElem? (i := 1368) (by decide +kernel), by decide +kernel⟩
theorem qk_1369 : Cond.methodLink "QuakeRehearsalLaw" 186 yX6_programmeBreaks ∈ lw_gd := List.mem_filter.mpr ⟨List.mem_of_getElem? (i := 1369) (by decide +kernel), by decide +kernel⟩
theorem qk_1370 : Cond.instanceMethod yX6_programmeBreaks ∈ lw_gd := List.mem_filter.mpr ⟨List.mem_of_getElem? (i := 1370) (by decide +kernel), by decide +kernel⟩
theorem qk_1371 : Cond.selects RX6 yX6_programmeBreaks yX6_programmeBreaks ∈ lw_gd := List.mem_filter.mpr ⟨List.mem_of_getElem? (i := 1371) (by decide +kernel), by decide +kernel⟩
theorem qk_1372 : Cond.code yX6_programmeBreaks cX6_programmeBreaks 4 (some .int) ∈ lw_gd := List.mem_filter.mpr ⟨List.mem_of_getElem? (i := 1372) (by decide +kernel), by decide +kernel⟩
theorem qk_1373 : Cond.methodLink "QuakeRehearsalLaw" 190 yX6_best ∈ lw_gd := List.mem_filter.mpr ⟨List.mem_of_getElem? (i := 1373) (by decide +kernel), by decide +kernel⟩
theorem qk_1374 : Cond.instanceMethod yX6_best ∈ lw_gd := List.mem_filter.mpr ⟨List.mem_of_getElem? (i := 1374) (by decide +kernel), by decide +kernel⟩
theorem qk_1375 : Cond.selects RX6 yX6_best yX6_best ∈ lw_gd := List.mem_filter.mpr ⟨List.mem_of_getElem? (i := 1375) (by decide +kernel), by decide +kernel⟩
theorem qk_1376 : Cond.code yX6_best cX6_best 3 (some .int) ∈ lw_gd := List.mem_filter.mpr ⟨List.mem_of_getElem? (i := 1376) (by decide +kernel), by decide +kernel⟩
theorem qk_1377 : Cond.methodLink "QuakeRehearsalLaw" 193 yX6_leastBreaking ∈ lw_gd := List.mem_filter.mpr ⟨List.mem_of_getElem? (i := 1377) (by decide +kernel), by decide +kernel⟩
theorem qk_1378 : Cond.instanceMethod yX6_leastBreaking ∈ lw_gd := List.mem_filter.mpr ⟨List.mem_of_getElem? (i := 1378) (by decide +kernel), by decide +kernel⟩
theorem qk_1379 : Cond.selects RX6 yX6_leastBreaking yX6_leastBreaking ∈ lw_gd := List.mem_filter.mpr ⟨List.mem_of_getElem? (i := 1379) (by decide +kernel), by decide +kernel⟩
theorem qk_1380 : Cond.code yX6_leastBreaking cX6_leastBreaking 2 (some .int) ∈ lw_gd := List.mem_filter.mpr ⟨List.mem_of_getElem? (i := 1380) (by decide +kernel), by decide +kernel⟩
theorem qk_1381 : Cond.methodLink "QuakeRehearsalLaw" 196 yX6_shocksFor ∈ lw_gd := List.mem_filter.mpr ⟨List.mem_of_getElem? (i := 1381) (by decide +kernel), by decide +kernel⟩
theorem qk_1382 : Cond.instanceMethod yX6_shocksFor ∈ lw_gd := List.mem_filter.mpr ⟨List.mem_of_getElem? (i := 1382) (by decide +kernel), by decide +kernel⟩
theorem qk_1383 : Cond.selects RX6 yX6_shocksFor yX6_shocksFor ∈ lw_gd := List.mem_filter.mpr ⟨List.mem_of_getElem? (i := 1383) (by decide +kernel), by decide +kernel⟩
theorem qk_1384 : Cond.code yX6_shocksFor cX6_shocksFor 4 (some .int) ∈ lw_gd := List.mem_filter.mpr ⟨List.mem_of_getElem? (i := 1384) (by decide +kernel), by decide +kernel⟩
theorem qk_1385 : Cond.methodLink "QuakeRehearsalLaw" 199 yX6_isBroken ∈ lw_gd := List.mem_filter.mpr ⟨List.mem_of_getElem? (i := 1385) (by decide +kernel), by decide +kernel⟩
theorem qk_1386 : Cond.instanceMethod yX6_isBroken ∈ lw_gd := List.mem_filter.mpr ⟨List.mem_of_getElem? (i := 1386) (by decide +kernel), by decide +kernel⟩
theorem qk_1387 : Cond.selects RX6 yX6_isBroken yX6_isBroken ∈ lw_gd := List.mem_filter.mpr ⟨List.mem_of_getElem? (i := 1387) (by decide +kernel), by decide +kernel⟩
theorem qk_1388 : Cond.code yX6_isBroken cX6_isBroken 2 (some .boolean) ∈ lw_gd := List.mem_filter.mpr ⟨List.mem_of_getElem? (i := 1388) (by decide +kernel), by decide +kernel⟩
theorem qk_1389 : Cond.methodLink "QuakeRehearsalLaw" 202 yX6_cupAt ∈ lw_gd := List.mem_filter.mpr ⟨List.mem_of_getElem? (i := 1389) (by decide +kernel), by decide +kernel⟩
theorem qk_1390 : Cond.instanceMethod yX6_cupAt ∈ lw_gd := List.mem_filter.mpr ⟨List.mem_of_getElem? (i := 1390) (by decide +kernel), by decide +kernel⟩
theorem qk_1391 : Cond.selects RX6 yX6_cupAt yX6_cupAt ∈ lw_gd := List.mem_filter.mpr ⟨List.mem_of_getElem? (i := 1391) (by decide +kernel), by decide +kernel⟩
theorem qk_1392 : Cond.code yX6_cupAt cX6_cupAt 2 (some .int) ∈ lw_gd := List.mem_filter.mpr ⟨List.mem_of_getElem? (i := 1392) (by decide +kernel), by decide +kernel⟩
theorem qk_1393 : Cond.methodLink RX6 166 yX6_placed ∈ lw_gd := List.mem_filter.mpr ⟨List.mem_of_getElem? (i := 1393) (by decide +kernel), by decide +kernel⟩
theorem qk_1395 : Cond.instanceMethod yX6_placed ∈ lw_gd := List.mem_filter.mpr ⟨List.mem_of_getElem? (i := 1395) (by decide +kernel), by decide +kernel⟩
theorem qk_1396 : Cond.code yX6_placed cX6_placed 8 (some .int) ∈ lw_gd := List.mem_filter.mpr ⟨List.mem_of_getElem? (i := 1396) (by decide +kernel), by decide +kernel⟩
theorem qk_1397 : Cond.methodLink RX6 163 yX6_ahead ∈ lw_gd := List.mem_filter.mpr ⟨List.mem_of_getElem? (i := 1397) (by decide +kernel), by decide +kernel⟩
theorem qk_1399 : Cond.instanceMethod yX6_ahead ∈ lw_gd := List.mem_filter.mpr ⟨List.mem_of_getElem? (i := 1399) (by decide +kernel), by decide +kernel⟩
theorem qk_1400 : Cond.code yX6_ahead cX6_ahead 5 (some .int) ∈ lw_gd := List.mem_filter.mpr ⟨List.mem_of_getElem? (i := 1400) (by decide +kernel), by decide +kernel⟩
theorem qk_1401 : Cond.methodLink "QuakeRehearsalLaw" 205 yX6_lampAt ∈ lw_gd := List.mem_filter.mpr ⟨List.mem_of_getElem? (i := 1401) (by decide +kernel), by decide +kernel⟩
theorem qk_1402 : Cond.instanceMethod yX6_lampAt ∈ lw_gd := List.mem_filter.mpr ⟨List.mem_of_getElem? (i := 1402) (by decide +kernel), by decide +kernel⟩
theorem qk_1403 : Cond.selects RX6 yX6_lampAt yX6_lampAt ∈ lw_gd := List.mem_filter.mpr ⟨List.mem_of_getElem? (i := 1403) (by decide +kernel), by decide +kernel⟩
theorem qk_1404 : Cond.code yX6_lampAt cX6_lampAt 2 (some .int) ∈ lw_gd := List.mem_filter.mpr ⟨List.mem_of_getElem? (i := 1404) (by decide +kernel), by decide +kernel⟩
theorem qk_1405 : Cond.methodLink "QuakeRehearsalLaw" 208 yX6_catAt ∈ lw_gd := List.mem_filter.mpr ⟨List.mem_of_getElem? (i := 1405) (by decide +kernel), by decide +kernel⟩
theorem qk_1406 : Cond.instanceMethod yX6_catAt ∈ lw_gd := List.mem_filter.mpr ⟨List.mem_of_getElem? (i := 1406) (by decide +kernel), by decide +kernel⟩
theorem qk_1407 : Cond.selects RX6 yX6_catAt yX6_catAt ∈ lw_gd := List.mem_filter.mpr ⟨List.mem_of_getElem? (i := 1407) (by decide +kernel), by decide +kernel⟩
theorem qk_1408 : Cond.code yX6_catAt cX6_catAt 2 (some .int) ∈ lw_gd := List.mem_filter.mpr ⟨List.mem_of_getElem? (i := 1408) (by decide +kernel), by decide +kernel⟩
theorem qk_1409 : Cond.methodLink "QuakeRehearsalLaw" 211 yX6_onFloor ∈ lw_gd := List.mem_filter.mpr ⟨List.mem_of_getElem? (i := 1409) (by decide +kernel), by decide +kernel⟩
theorem qk_1410 : Cond.instanceMethod yX6_onFloor ∈ lw_gd := List.mem_filter.mpr ⟨List.mem_of_getElem? (i := 1410) (by decide +kernel), by decide +kernel⟩
theorem qk_1411 : Cond.selects RX6 yX6_onFloor yX6_onFloor ∈ lw_gd := List.mem_filter.mpr ⟨List.mem_of_getElem? (i := 1411) (by decide +kernel), by decide +kernel⟩
theorem qk_1412 : Cond.code yX6_onFloor cX6_onFloor 3 (some .int) ∈ lw_gd := List.mem_filter.mpr ⟨List.mem_of_getElem? (i := 1412) (by decide +kernel), by decide +kernel⟩
theorem qk_1413 : Cond.methodLink "QuakeRehearsalLaw" 214 yX6_line ∈ lw_gd := List.mem_filter.mpr ⟨List.mem_of_getElem? (i := 1413) (by decide +kernel), by decide +kernel⟩
theorem qk_1414 : Cond.instanceMethod yX6_line ∈ lw_gd := List.mem_filter.mpr ⟨List.mem_of_getElem? (i := 1414) (by decide +kernel), by decide +kernel⟩
theorem qk_1415 : Cond.selects RX6 yX6_line yX6_line ∈ lw_gd := List.mem_filter.mpr ⟨List.mem_of_getElem? (i := 1415) (by decide +kernel), by decide +kernel⟩
theorem qk_1416 : Cond.code yX6_line cX6_line 2 (some .int) ∈ lw_gd := List.mem_filter.mpr ⟨List.mem_of_getElem? (i := 1416) (by decide +kernel), by decide +kernel⟩
theorem qk_1418 : Cond.methodLink RX6 182 ⟨"java/lang/String", "charAt", "(I)C"⟩ ∈ lw_gd := List.mem_filter.mpr ⟨List.mem_of_getElem? (i := 1418) (by decide +kernel), by decide +kernel⟩
theorem qk_1419 : Cond.methodLink RX6 176 yX6_says ∈ lw_gd := List.mem_filter.mpr ⟨List.mem_of_getElem? (i := 1419) (by decide +kernel), by decide +kernel⟩
theorem qk_1421 : Cond.instanceMethod yX6_says ∈ lw_gd := List.mem_filter.mpr ⟨List.mem_of_getElem? (i := 1421) (by decide +kernel), by decide +kernel⟩
theorem qk_1422 : Cond.code yX6_says cX6_says 2 (none) ∈ lw_gd := List.mem_filter.mpr ⟨List.mem_of_getElem? (i := 1422) (by decide +kernel), by decide +kernel⟩
theorem qk_1423 : Cond.methodLink RX6 172 yX6_saysNumber ∈ lw_gd := List.mem_filter.mpr ⟨List.mem_of_getElem? (i := 1423) (by decide +kernel), by decide +kernel⟩
theorem qk_1425 : Cond.instanceMethod yX6_saysNumber ∈ lw_gd := List.mem_filter.mpr ⟨List.mem_of_getElem? (i := 1425) (by decide +kernel), by decide +kernel⟩
theorem qk_1426 : Cond.code yX6_saysNumber cX6_saysNumber 2 (none) ∈ lw_gd := List.mem_filter.mpr ⟨List.mem_of_getElem? (i := 1426) (by decide +kernel), by decide +kernel⟩
theorem qk_1427 : Cond.methodLink RX6 188 yX6_saysValue ∈ lw_gd := List.mem_filter.mpr ⟨List.mem_of_getElem? (i := 1427) (by decide +kernel), by decide +kernel⟩
theorem qk_1429 : Cond.instanceMethod yX6_saysValue ∈ lw_gd := List.mem_filter.mpr ⟨List.mem_of_getElem? (i := 1429) (by decide +kernel), by decide +kernel⟩
theorem qk_1430 : Cond.code yX6_saysValue cX6_saysValue 3 (none) ∈ lw_gd := List.mem_filter.mpr ⟨List.mem_of_getElem? (i := 1430) (by decide +kernel), by decide +kernel⟩
theorem qk_1431 : Cond.methodLink "QuakeRehearsalLaw" 218 yX6_programmeLine ∈ lw_gd := List.mem_filter.mpr ⟨List.mem_of_getElem? (i := 1431) (by decide +kernel), by decide +kernel⟩
theorem qk_1432 : Cond.instanceMethod yX6_programmeLine ∈ lw_gd := List.mem_filter.mpr ⟨List.mem_of_getElem? (i := 1432) (by decide +kernel), by decide +kernel⟩
theorem qk_1433 : Cond.selects RX6 yX6_programmeLine yX6_programmeLine ∈ lw_gd := List.mem_filter.mpr ⟨List.mem_of_getElem? (i := 1433) (by decide +kernel), by decide +kernel⟩
theorem qk_1434 : Cond.code yX6_programmeLine cX6_programmeLine 2 (some .int) ∈ lw_gd := List.mem_filter.mpr ⟨List.mem_of_getElem? (i := 1434) (by decide +kernel), by decide +kernel⟩
theorem qk_1435 : Cond.methodLink "QuakeRehearsalLaw" 221 yX6_character ∈ lw_gd := List.mem_filter.mpr ⟨List.mem_of_getElem? (i := 1435) (by decide +kernel), by decide +kernel⟩
theorem qk_1436 : Cond.instanceMethod yX6_character ∈ lw_gd := List.mem_filter.mpr ⟨List.mem_of_getElem? (i := 1436) (by decide +kernel), by decide +kernel⟩
theorem qk_1437 : Cond.selects RX6 yX6_character yX6_character ∈ lw_gd := List.mem_filter.mpr ⟨List.mem_of_getElem? (i := 1437) (by decide +kernel), by decide +kernel⟩
theorem qk_1438 : Cond.code yX6_character cX6_character 2 (some .char) ∈ lw_gd := List.mem_filter.mpr ⟨List.mem_of_getElem? (i := 1438) (by decide +kernel), by decide +kernel⟩
theorem qk_1439 : Cond.methodLink "QuakeRehearsalLaw" 225 yX6_append ∈ lw_gd := List.mem_filter.mpr ⟨List.mem_of_getElem? (i := 1439) (by decide +kernel), by decide +kernel⟩
theorem qk_1440 : Cond.instanceMethod yX6_append ∈ lw_gd := List.mem_filter.mpr ⟨List.mem_of_getElem? (i := 1440) (by decide +kernel), by decide +kernel⟩
theorem qk_1441 : Cond.selects RX6 yX6_append yX6_append ∈ lw_gd := List.mem_filter.mpr ⟨List.mem_of_getElem? (i := 1441) (by decide +kernel), by decide +kernel⟩
theorem qk_1442 : Cond.code yX6_append cX6_append 2 (some .int) ∈ lw_gd := List.mem_filter.mpr ⟨List.mem_of_getElem? (i := 1442) (by decide +kernel), by decide +kernel⟩
theorem qk_1443 : Cond.methodLink "QuakeRehearsalLaw" 228 yX6_run ∈ lw_gd := List.mem_filter.mpr ⟨List.mem_of_getElem? (i := 1443) (by decide +kernel), by decide +kernel⟩
theorem qk_1444 : Cond.instanceMethod yX6_run ∈ lw_gd := List.mem_filter.mpr ⟨List.mem_of_getElem? (i := 1444) (by decide +kernel), by decide +kernel⟩
theorem qk_1445 : Cond.selects RX6 yX6_run yX6_run ∈ lw_gd := List.mem_filter.mpr ⟨List.mem_of_getElem? (i := 1445) (by decide +kernel), by decide +kernel⟩
theorem qk_1446 : Cond.code yX6_run cX6_run 2 (some .int) ∈ lw_gd := List.mem_filter.mpr ⟨List.mem_of_getElem? (i := 1446) (by decide +kernel), by decide +kernel⟩
theorem qk_1447 : Cond.methodLink RX6 243 yX6_readOrder ∈ lw_gd := List.mem_filter.mpr ⟨List.mem_of_getElem? (i := 1447) (by decide +kernel), by decide +kernel⟩
theorem qk_1449 : Cond.instanceMethod yX6_readOrder ∈ lw_gd := List.mem_filter.mpr ⟨List.mem_of_getElem? (i := 1449) (by decide +kernel), by decide +kernel⟩
theorem qk_1450 : Cond.code yX6_readOrder cX6_readOrder 3 (none) ∈ lw_gd := List.mem_filter.mpr ⟨List.mem_of_getElem? (i := 1450) (by decide +kernel), by decide +kernel⟩
theorem qk_1451 : Cond.methodLink RX6 235 yX6_word ∈ lw_gd := List.mem_filter.mpr ⟨List.mem_of_getElem? (i := 1451) (by decide +kernel), by decide +kernel⟩
theorem qk_1453 : Cond.instanceMethod yX6_word ∈ lw_gd := List.mem_filter.mpr ⟨List.mem_of_getElem? (i := 1453) (by decide +kernel), by decide +kernel⟩
theorem qk_1454 : Cond.code yX6_word cX6_word 7 (some .int) ∈ lw_gd := List.mem_filter.mpr ⟨List.mem_of_getElem? (i := 1454) (by decide +kernel), by decide +kernel⟩
theorem qk_1457 : Cond.methodLink RX6 204 ⟨"java/lang/String", "length", "()I"⟩ ∈ lw_gd := List.mem_filter.mpr ⟨List.mem_of_getElem? (i := 1457) (by decide +kernel), by decide +kernel⟩
theorem qk_1458 : Cond.methodLink RX6 214 ⟨"java/lang/String", "indexOf", "(II)I"⟩ ∈ lw_gd := List.mem_filter.mpr ⟨List.mem_of_getElem? (i := 1458) (by decide +kernel), by decide +kernel⟩
theorem qk_1459 : Cond.instanceMethod ⟨"java/lang/String", "indexOf", "(II)I"⟩ ∈ lw_gd := List.mem_filter.mpr ⟨List.mem_of_getElem? (i := 1459) (by decide +kernel), by decide +kernel⟩
theorem qk_1460 : Cond.selects "java/lang/String" ⟨"java/lang/String", "indexOf", "(II)I"⟩ ⟨"java/lang/String", "indexOf", "(II)I"⟩ ∈ lw_gd := List.mem_filter.mpr ⟨List.mem_of_getElem? (i := 1460) (by decide +kernel), by decide +kernel⟩
theorem qk_1464 : Cond.static ⟨"java/lang/StringLatin1", "indexOf", "([BIII)I"⟩ ∈ lw_gd := List.mem_filter.mpr ⟨List.mem_of_getElem? (i := 1464) (by decide +kernel), by decide +kernel⟩
theorem qk_1467 : Cond.static ⟨"java/lang/StringLatin1", "canEncode", "(I)Z"⟩ ∈ lw_gd := List.mem_filter.mpr ⟨List.mem_of_getElem? (i := 1467) (by decide +kernel), by decide +kernel⟩
theorem qk_1471 : Cond.static ⟨"java/lang/Math", "min", "(II)I"⟩ ∈ lw_gd := List.mem_filter.mpr ⟨List.mem_of_getElem? (i := 1471) (by decide +kernel), by decide +kernel⟩
theorem qk_1474 : Cond.static ⟨"java/lang/StringLatin1", "indexOfChar", "([BIII)I"⟩ ∈ lw_gd := List.mem_filter.mpr ⟨List.mem_of_getElem? (i := 1474) (by decide +kernel), by decide +kernel⟩
theorem qk_1477 : Cond.static ⟨"java/lang/StringUTF16", "indexOf", "([BIII)I"⟩ ∈ lw_gd := List.mem_filter.mpr ⟨List.mem_of_getElem? (i := 1477) (by decide +kernel), by decide +kernel⟩
theorem qk_1483 : Cond.static ⟨"java/lang/StringUTF16", "indexOfChar", "([BIII)I"⟩ ∈ lw_gd := List.mem_filter.mpr ⟨List.mem_of_getElem? (i := 1483) (by decide +kernel), by decide +kernel⟩
theorem qk_1486 : Cond.static ⟨"java/lang/StringUTF16", "checkBoundsBeginEnd", "(II[B)V"⟩ ∈ lw_gd := List.mem_filter.mpr ⟨List.mem_of_getElem? (i := 1486) (by decide +kernel), by decide +kernel⟩
theorem qk_1489 : Cond.static ⟨"java/lang/String", "checkBoundsBeginEnd", "(III)V"⟩ ∈ lw_gd := List.mem_filter.mpr ⟨List.mem_of_getElem? (i := 1489) (by decide +kernel), by decide +kernel⟩
theorem qk_1492 : Cond.static ⟨"jdk/internal/util/Preconditions", "checkFromToIndex", "(IIILjava/util/function/BiFunction;)I"⟩ ∈ lw_gd := List.mem_filter.mpr ⟨List.mem_of_getElem? (i := 1492) (by decide +kernel), by decide +kernel⟩
theorem qk_1495 : Cond.static ⟨"java/lang/StringUTF16", "indexOfCharUnsafe", "([BIII)I"⟩ ∈ lw_gd := List.mem_filter.mpr ⟨List.mem_of_getElem? (i := 1495) (by decide +kernel), by decide +kernel⟩
theorem qk_1498 : Cond.static ⟨"java/lang/StringUTF16", "indexOfSupplementary", "([BIII)I"⟩ ∈ lw_gd := List.mem_filter.mpr ⟨List.mem_of_getElem? (i := 1498) (by decide +kernel), by decide +kernel⟩
theorem qk_1501 : Cond.static ⟨"java/lang/Character", "isValidCodePoint", "(I)Z"⟩ ∈ lw_gd := List.mem_filter.mpr ⟨List.mem_of_getElem? (i := 1501) (by decide +kernel), by decide +kernel⟩
theorem qk_1504 : Cond.static ⟨"java/lang/Character", "highSurrogate", "(I)C"⟩ ∈ lw_gd := List.mem_filter.mpr ⟨List.mem_of_getElem? (i := 1504) (by decide +kernel), by decide +kernel⟩
theorem qk_1508 : Cond.static ⟨"java/lang/Character", "lowSurrogate", "(I)C"⟩ ∈ lw_gd := List.mem_filter.mpr ⟨List.mem_of_getElem? (i := 1508) (by decide +kernel), by decide +kernel⟩
theorem qk_1511 : Cond.methodLink RX6 217 ⟨"java/lang/String", "substring", "(II)Ljava/lang/String;"⟩ ∈ lw_gd := List.mem_filter.mpr ⟨List.mem_of_getElem? (i := 1511) (by decide +kernel), by decide +kernel⟩
theorem qk_1512 : Cond.instanceMethod ⟨"java/lang/String", "substring", "(II)Ljava/lang/String;"⟩ ∈ lw_gd := List.mem_filter.mpr ⟨List.mem_of_getElem? (i := 1512) (by decide +kernel), by decide +kernel⟩
theorem qk_1513 : Cond.selects "java/lang/String" ⟨"java/lang/String", "substring", "(II)Ljava/lang/String;"⟩ ⟨"java/lang/String", "substring", "(II)Ljava/lang/String;"⟩ ∈ lw_gd := List.mem_filter.mpr ⟨List.mem_of_getElem? (i := 1513) (by decide +kernel), by decide +kernel⟩
theorem qk_1517 : Cond.static ⟨"java/lang/StringLatin1", "newString", "([BII)Ljava/lang/String;"⟩ ∈ lw_gd := List.mem_filter.mpr ⟨List.mem_of_getElem? (i := 1517) (by decide +kernel), by decide +kernel⟩
theorem qk_1522 : Cond.static ⟨"java/util/Arrays", "copyOfRange", "([BII)[B"⟩ ∈ lw_gd := List.mem_filter.mpr ⟨List.mem_of_getElem? (i := 1522) (by decide +kernel), by decide +kernel⟩
theorem qk_1525 : Cond.static ⟨"java/util/Arrays", "copyOfRangeByte", "([BII)[B"⟩ ∈ lw_gd := List.mem_filter.mpr ⟨List.mem_of_getElem? (i := 1525) (by decide +kernel), by decide +kernel⟩
theorem qk_1528 : Cond.static ⟨"java/util/Arrays", "checkLength", "(II)V"⟩ ∈ lw_gd := List.mem_filter.mpr ⟨List.mem_of_getElem? (i := 1528) (by decide +kernel), by decide +kernel⟩
theorem qk_1534 : Cond.instanceMethod ⟨"java/lang/StringBuilder", "<init>", "()V"⟩ ∈ lw_gd := List.mem_filter.mpr ⟨List.mem_of_getElem? (i := 1534) (by decide +kernel), by decide +kernel⟩
theorem qk_1537 : Cond.instanceMethod ⟨"java/lang/AbstractStringBuilder", "<init>", "(I)V"⟩ ∈ lw_gd := List.mem_filter.mpr ⟨List.mem_of_getElem? (i := 1537) (by decide +kernel), by decide +kernel⟩
theorem qk_1542 : Cond.static ⟨"java/lang/StringUTF16", "newBytesFor", "(I)[B"⟩ ∈ lw_gd := List.mem_filter.mpr ⟨List.mem_of_getElem? (i := 1542) (by decide +kernel), by decide +kernel⟩
theorem qk_1545 : Cond.static ⟨"java/lang/StringUTF16", "newBytesLength", "(I)I"⟩ ∈ lw_gd := List.mem_filter.mpr ⟨List.mem_of_getElem? (i := 1545) (by decide +kernel), by decide +kernel⟩
theorem qk_1562 : Cond.instanceMethod ⟨"java/lang/StringBuilder", "append", "(I)Ljava/lang/StringBuilder;"⟩ ∈ lw_gd := List.mem_filter.mpr ⟨List.mem_of_getElem? (i := 1562) (by decide +kernel), by decide +kernel⟩
theorem qk_1563 : Cond.selects "java/lang/StringBuilder" ⟨"java/lang/StringBuilder", "append", "(I)Ljava/lang/StringBuilder;"⟩ ⟨"java/lang/StringBuilder", "append", "(I)Ljava/lang/StringBuilder;"⟩ ∈ lw_gd := List.mem_filter.mpr ⟨List.mem_of_getElem? (i := 1563) (by decide +kernel), by decide +kernel⟩
theorem qk_1566 : Cond.instanceMethod ⟨"java/lang/AbstractStringBuilder", "append", "(I)Ljava/lang/AbstractStringBuilder;"⟩ ∈ lw_gd := List.mem_filter.mpr ⟨List.mem_of_getElem? (i := 1566) (by decide +kernel), by decide +kernel⟩
theorem qk_1569 : Cond.static ⟨"java/lang/Integer", "stringSize", "(I)I"⟩ ∈ lw_gd := List.mem_filter.mpr ⟨List.mem_of_getElem? (i := 1569) (by decide +kernel), by decide +kernel⟩
theorem qk_1573 : Cond.instanceMethod ⟨"java/lang/AbstractStringBuilder", "ensureCapacityInternal", "(I)V"⟩ ∈ lw_gd := List.mem_filter.mpr ⟨List.mem_of_getElem? (i := 1573) (by decide +kernel), by decide +kernel⟩
theorem qk_1577 : Cond.instanceMethod ⟨"java/lang/AbstractStringBuilder", "newCapacity", "(I)I"⟩ ∈ lw_gd := List.mem_filter.mpr ⟨List.mem_of_getElem? (i := 1577) (by decide +kernel), by decide +kernel⟩
theorem qk_1580 : Cond.static ⟨"jdk/internal/util/ArraysSupport", "newLength", "(III)I"⟩ ∈ lw_gd := List.mem_filter.mpr ⟨List.mem_of_getElem? (i := 1580) (by decide +kernel), by decide +kernel⟩
theorem qk_1585 : Cond.static ⟨"jdk/internal/util/ArraysSupport", "hugeLength", "(II)I"⟩ ∈ lw_gd := List.mem_filter.mpr ⟨List.mem_of_getElem? (i := 1585) (by decide +kernel), by decide +kernel⟩
theorem qk_1589 : Cond.static ⟨"java/util/Arrays", "copyOf", "([BI)[B"⟩ ∈ lw_gd := List.mem_filter.mpr ⟨List.mem_of_getElem? (i := 1589) (by decide +kernel), by decide +kernel⟩
theorem qk_1594 : Cond.instanceMethod ⟨"java/lang/Object", "clone", "()Ljava/lang/Object;"⟩ ∈ lw_gd := List.mem_filter.mpr ⟨List.mem_of_getElem? (i := 1594) (by decide +kernel), by decide +kernel⟩
theorem qk_1595 : Cond.selects "[B" ⟨"[B", "clone", "()Ljava/lang/Object;"⟩ ⟨"java/lang/Object", "clone", "()Ljava/lang/Object;"⟩ ∈ lw_gd := List.mem_filter.mpr ⟨List.mem_of_getElem? (i := 1595) (by decide +kernel), by decide +kernel⟩
theorem qk_1601 : Cond.instanceMethod ⟨"java/lang/AbstractStringBuilder", "isLatin1", "()Z"⟩ ∈ lw_gd := List.mem_filter.mpr ⟨List.mem_of_getElem? (i := 1601) (by decide +kernel), by decide +kernel⟩
theorem qk_1603 : Cond.selects "java/lang/StringBuilder" ⟨"java/lang/AbstractStringBuilder", "isLatin1", "()Z"⟩ ⟨"java/lang/AbstractStringBuilder", "isLatin1", "()Z"⟩ ∈ lw_gd := List.mem_filter.mpr ⟨List.mem_of_getElem? (i := 1603) (by decide +kernel), by decide +kernel⟩
theorem qk_1606 : Cond.static ⟨"java/lang/Integer", "getChars", "(II[B)I"⟩ ∈ lw_gd := List.mem_filter.mpr ⟨List.mem_of_getElem? (i := 1606) (by decide +kernel), by decide +kernel⟩
theorem qk_1608 : Cond.fieldLink RJ6 83 "java/lang/Integer" "DigitOnes" "[B" ∈ lw_gd := List.mem_filter.mpr ⟨List.mem_of_getElem? (i := 1608) (by decide +kernel), by decide +kernel⟩
theorem qk_1610 : Cond.fieldLink RJ6 87 "java/lang/Integer" "DigitTens" "[B" ∈ lw_gd := List.mem_filter.mpr ⟨List.mem_of_getElem? (i := 1610) (by decide +kernel), by decide +kernel⟩
theorem qk_1613 : Cond.static ⟨"java/lang/StringUTF16", "getChars", "(III[B)I"⟩ ∈ lw_gd := List.mem_filter.mpr ⟨List.mem_of_getElem? (i := 1613) (by decide +kernel), by decide +kernel⟩
theorem qk_1616 : Cond.static ⟨"java/lang/StringUTF16", "getChars", "(II[B)I"⟩ ∈ lw_gd := List.mem_filter.mpr ⟨List.mem_of_getElem? (i := 1616) (by decide +kernel), by decide +kernel⟩
theorem qk_1620 : Cond.static ⟨"java/lang/StringUTF16", "putChar", "([BII)V"⟩ ∈ lw_gd := List.mem_filter.mpr ⟨List.mem_of_getElem? (i := 1620) (by decide +kernel), by decide +kernel⟩
theorem qk_1625 : Cond.instanceMethod ⟨"java/lang/StringBuilder", "append", "(Ljava/lang/String;)Ljava/lang/StringBuilder;"⟩ ∈ lw_gd := List.mem_filter.mpr ⟨List.mem_of_getElem? (i := 1625) (by decide +kernel), by decide +kernel⟩
theorem qk_1626 : Cond.selects "java/lang/StringBuilder" ⟨"java/lang/StringBuilder", "append", "(Ljava/lang/String;)Ljava/lang/StringBuilder;"⟩ ⟨"java/lang/StringBuilder", "append", "(Ljava/lang/String;)Ljava/lang/StringBuilder;"⟩ ∈ lw_gd := List.mem_filter.mpr ⟨List.mem_of_getElem? (i := 1626) (by decide +kernel), by decide +kernel⟩
theorem qk_1629 : Cond.instanceMethod ⟨"java/lang/AbstractStringBuilder", "append", "(Ljava/lang/String;)Ljava/lang/AbstractStringBuilder;"⟩ ∈ lw_gd := List.mem_filter.mpr ⟨List.mem_of_getElem? (i := 1629) (by decide +kernel), by decide +kernel⟩
theorem qk_1633 : Cond.instanceMethod ⟨"java/lang/AbstractStringBuilder", "appendNull", "()Ljava/lang/AbstractStringBuilder;"⟩ ∈ lw_gd := List.mem_filter.mpr ⟨List.mem_of_getElem? (i := 1633) (by decide +kernel), by decide +kernel⟩
theorem qk_1636 : Cond.static ⟨"java/lang/StringUTF16", "putCharsAt", "([BICCCC)I"⟩ ∈ lw_gd := List.mem_filter.mpr ⟨List.mem_of_getElem? (i := 1636) (by decide +kernel), by decide +kernel⟩
theorem qk_1641 : Cond.instanceMethod ⟨"java/lang/AbstractStringBuilder", "putStringAt", "(ILjava/lang/String;)V"⟩ ∈ lw_gd := List.mem_filter.mpr ⟨List.mem_of_getElem? (i := 1641) (by decide +kernel), by decide +kernel⟩
theorem qk_1645 : Cond.instanceMethod ⟨"java/lang/AbstractStringBuilder", "inflateIfNeededFor", "(Ljava/lang/String;)V"⟩ ∈ lw_gd := List.mem_filter.mpr ⟨List.mem_of_getElem? (i := 1645) (by decide +kernel), by decide +kernel⟩
theorem qk_1650 : Cond.instanceMethod ⟨"java/lang/AbstractStringBuilder", "inflate", "()V"⟩ ∈ lw_gd := List.mem_filter.mpr ⟨List.mem_of_getElem? (i := 1650) (by decide +kernel), by decide +kernel⟩
theorem qk_1653 : Cond.static ⟨"java/lang/StringLatin1", "inflate", "([BI[BII)V"⟩ ∈ lw_gd := List.mem_filter.mpr ⟨List.mem_of_getElem? (i := 1653) (by decide +kernel), by decide +kernel⟩
theorem qk_1656 : Cond.static ⟨"java/lang/StringUTF16", "inflate", "([BI[BII)V"⟩ ∈ lw_gd := List.mem_filter.mpr ⟨List.mem_of_getElem? (i := 1656) (by decide +kernel), by decide +kernel⟩
theorem qk_1659 : Cond.static ⟨"java/lang/StringUTF16", "checkBoundsOffCount", "(II[B)V"⟩ ∈ lw_gd := List.mem_filter.mpr ⟨List.mem_of_getElem? (i := 1659) (by decide +kernel), by decide +kernel⟩
theorem qk_1662 : Cond.static ⟨"java/lang/String", "checkBoundsOffCount", "(III)I"⟩ ∈ lw_gd := List.mem_filter.mpr ⟨List.mem_of_getElem? (i := 1662) (by decide +kernel), by decide +kernel⟩
theorem qk_1665 : Cond.static ⟨"jdk/internal/util/Preconditions", "checkFromIndexSize", "(IIILjava/util/function/BiFunction;)I"⟩ ∈ lw_gd := List.mem_filter.mpr ⟨List.mem_of_getElem? (i := 1665) (by decide +kernel), by decide +kernel⟩
theorem qk_1668 : Cond.instanceMethod ⟨"java/lang/String", "getBytes", "([BIB)V"⟩ ∈ lw_gd := List.mem_filter.mpr ⟨List.mem_of_getElem? (i := 1668) (by decide +kernel), by decide +kernel⟩
theorem qk_1669 : Cond.selects "java/lang/String" ⟨"java/lang/String", "getBytes", "([BIB)V"⟩ ⟨"java/lang/String", "getBytes", "([BIB)V"⟩ ∈ lw_gd := List.mem_filter.mpr ⟨List.mem_of_getElem? (i := 1669) (by decide +kernel), by decide +kernel⟩
theorem qk_1674 : Cond.instanceMethod ⟨"java/lang/StringBuilder", "toString", "()Ljava/lang/String;"⟩ ∈ lw_gd := List.mem_filter.mpr ⟨List.mem_of_getElem? (i := 1674) (by decide +kernel), by decide +kernel⟩
theorem qk_1675 : Cond.selects "java/lang/StringBuilder" ⟨"java/lang/StringBuilder", "toString", "()Ljava/lang/String;"⟩ ⟨"java/lang/StringBuilder", "toString", "()Ljava/lang/String;"⟩ ∈ lw_gd := List.mem_filter.mpr ⟨List.mem_of_getElem? (i := 1675) (by decide +kernel), by decide +kernel⟩
theorem qk_1679 : Cond.instanceMethod ⟨"java/lang/String", "<init>", "(Ljava/lang/StringBuilder;)V"⟩ ∈ lw_gd := List.mem_filter.mpr ⟨List.mem_of_getElem? (i := 1679) (by decide +kernel), by decide +kernel⟩
theorem qk_1682 : Cond.instanceMethod ⟨"java/lang/String", "<init>", "(Ljava/lang/AbstractStringBuilder;Ljava/lang/Void;)V"⟩ ∈ lw_gd := List.mem_filter.mpr ⟨List.mem_of_getElem? (i := 1682) (by decide +kernel), by decide +kernel⟩
theorem qk_1686 : Cond.instanceMethod ⟨"java/lang/AbstractStringBuilder", "getValue", "()[B"⟩ ∈ lw_gd := List.mem_filter.mpr ⟨List.mem_of_getElem? (i := 1686) (by decide +kernel), by decide +kernel⟩
theorem qk_1688 : Cond.selects "java/lang/StringBuilder" ⟨"java/lang/AbstractStringBuilder", "getValue", "()[B"⟩ ⟨"java/lang/AbstractStringBuilder", "getValue", "()[B"⟩ ∈ lw_gd := List.mem_filter.mpr ⟨List.mem_of_getElem? (i := 1688) (by decide +kernel), by decide +kernel⟩
theorem qk_1691 : Cond.instanceMethod ⟨"java/lang/AbstractStringBuilder", "length", "()I"⟩ ∈ lw_gd := List.mem_filter.mpr ⟨List.mem_of_getElem? (i := 1691) (by decide +kernel), by decide +kernel⟩
theorem qk_1693 : Cond.selects "java/lang/StringBuilder" ⟨"java/lang/AbstractStringBuilder", "length", "()I"⟩ ⟨"java/lang/StringBuilder", "length", "()I"⟩ ∈ lw_gd := List.mem_filter.mpr ⟨List.mem_of_getElem? (i := 1693) (by decide +kernel), by decide +kernel⟩
theorem qk_1694 : Cond.instanceMethod ⟨"java/lang/StringBuilder", "length", "()I"⟩ ∈ lw_gd := List.mem_filter.mpr ⟨List.mem_of_getElem? (i := 1694) (by decide +kernel), by decide +kernel⟩
theorem qk_1701 : Cond.static ⟨"java/lang/StringUTF16", "compress", "([BII)[B"⟩ ∈ lw_gd := List.mem_filter.mpr ⟨List.mem_of_getElem? (i := 1701) (by decide +kernel), by decide +kernel⟩
theorem qk_1704 : Cond.static ⟨"java/lang/StringUTF16", "compress", "([BI[BII)I"⟩ ∈ lw_gd := List.mem_filter.mpr ⟨List.mem_of_getElem? (i := 1704) (by decide +kernel), by decide +kernel⟩
theorem qk_1708 : Cond.static ⟨"java/lang/StringUTF16", "coderFromArrayLen", "([BI)B"⟩ ∈ lw_gd := List.mem_filter.mpr ⟨List.mem_of_getElem? (i := 1708) (by decide +kernel), by decide +kernel⟩
theorem qk_1719 : Cond.instanceMethod ⟨"java/lang/String", "<init>", "([BB)V"⟩ ∈ lw_gd := List.mem_filter.mpr ⟨List.mem_of_getElem? (i := 1719) (by decide +kernel), by decide +kernel⟩
theorem qk_1722 : Cond.static ⟨"java/lang/StringUTF16", "newString", "([BII)Ljava/lang/String;"⟩ ∈ lw_gd := List.mem_filter.mpr ⟨List.mem_of_getElem? (i := 1722) (by decide +kernel), by decide +kernel⟩
theorem qk_1730 : Cond.methodLink RX6 221 yX6_common ∈ lw_gd := List.mem_filter.mpr ⟨List.mem_of_getElem? (i := 1730) (by decide +kernel), by decide +kernel⟩
theorem qk_1732 : Cond.instanceMethod yX6_common ∈ lw_gd := List.mem_filter.mpr ⟨List.mem_of_getElem? (i := 1732) (by decide +kernel), by decide +kernel⟩
theorem qk_1733 : Cond.code yX6_common cX6_common 3 (some .int) ∈ lw_gd := List.mem_filter.mpr ⟨List.mem_of_getElem? (i := 1733) (by decide +kernel), by decide +kernel⟩
theorem qk_1734 : Cond.methodLink RX6 225 yX6_skip ∈ lw_gd := List.mem_filter.mpr ⟨List.mem_of_getElem? (i := 1734) (by decide +kernel), by decide +kernel⟩
theorem qk_1736 : Cond.instanceMethod yX6_skip ∈ lw_gd := List.mem_filter.mpr ⟨List.mem_of_getElem? (i := 1736) (by decide +kernel), by decide +kernel⟩
theorem qk_1737 : Cond.code yX6_skip cX6_skip 4 (none) ∈ lw_gd := List.mem_filter.mpr ⟨List.mem_of_getElem? (i := 1737) (by decide +kernel), by decide +kernel⟩
theorem qk_1738 : Cond.methodLink RX6 206 yX6_sign ∈ lw_gd := List.mem_filter.mpr ⟨List.mem_of_getElem? (i := 1738) (by decide +kernel), by decide +kernel⟩
theorem qk_1740 : Cond.instanceMethod yX6_sign ∈ lw_gd := List.mem_filter.mpr ⟨List.mem_of_getElem? (i := 1740) (by decide +kernel), by decide +kernel⟩
theorem qk_1741 : Cond.code yX6_sign cX6_sign 3 (some .int) ∈ lw_gd := List.mem_filter.mpr ⟨List.mem_of_getElem? (i := 1741) (by decide +kernel), by decide +kernel⟩
theorem qk_1742 : Cond.methodLink RX6 200 yX6_isHere ∈ lw_gd := List.mem_filter.mpr ⟨List.mem_of_getElem? (i := 1742) (by decide +kernel), by decide +kernel⟩
theorem qk_1744 : Cond.instanceMethod yX6_isHere ∈ lw_gd := List.mem_filter.mpr ⟨List.mem_of_getElem? (i := 1744) (by decide +kernel), by decide +kernel⟩
theorem qk_1745 : Cond.code yX6_isHere cX6_isHere 3 (some .boolean) ∈ lw_gd := List.mem_filter.mpr ⟨List.mem_of_getElem? (i := 1745) (by decide +kernel), by decide +kernel⟩
theorem qk_1747 : Cond.methodLink RX6 240 yX6_number ∈ lw_gd := List.mem_filter.mpr ⟨List.mem_of_getElem? (i := 1747) (by decide +kernel), by decide +kernel⟩
theorem qk_1749 : Cond.instanceMethod yX6_number ∈ lw_gd := List.mem_filter.mpr ⟨List.mem_of_getElem? (i := 1749) (by decide +kernel), by decide +kernel⟩
theorem qk_1750 : Cond.code yX6_number cX6_number 2 (some .int) ∈ lw_gd := List.mem_filter.mpr ⟨List.mem_of_getElem? (i := 1750) (by decide +kernel), by decide +kernel⟩
theorem qk_1751 : Cond.methodLink RX6 229 yX6_digit ∈ lw_gd := List.mem_filter.mpr ⟨List.mem_of_getElem? (i := 1751) (by decide +kernel), by decide +kernel⟩
theorem qk_1753 : Cond.instanceMethod yX6_digit ∈ lw_gd := List.mem_filter.mpr ⟨List.mem_of_getElem? (i := 1753) (by decide +kernel), by decide +kernel⟩
theorem qk_1754 : Cond.code yX6_digit cX6_digit 1 (some .int) ∈ lw_gd := List.mem_filter.mpr ⟨List.mem_of_getElem? (i := 1754) (by decide +kernel), by decide +kernel⟩
theorem qk_1755 : Cond.methodLink RX6 246 yX6_does ∈ lw_gd := List.mem_filter.mpr ⟨List.mem_of_getElem? (i := 1755) (by decide +kernel), by decide +kernel⟩
theorem qk_1757 : Cond.instanceMethod yX6_does ∈ lw_gd := List.mem_filter.mpr ⟨List.mem_of_getElem? (i := 1757) (by decide +kernel), by decide +kernel⟩
theorem qk_1758 : Cond.code yX6_does cX6_does 5 (none) ∈ lw_gd := List.mem_filter.mpr ⟨List.mem_of_getElem? (i := 1758) (by decide +kernel), by decide +kernel⟩
theorem qk_1759 : Cond.methodLink "QuakeRehearsalLaw" 232 yX6_errorPosition ∈ lw_gd := List.mem_filter.mpr ⟨List.mem_of_getElem? (i := 1759) (by decide +kernel), by decide +kernel⟩
theorem qk_1760 : Cond.instanceMethod yX6_errorPosition ∈ lw_gd := List.mem_filter.mpr ⟨List.mem_of_getElem? (i := 1760) (by decide +kernel), by decide +kernel⟩
theorem qk_1761 : Cond.selects RX6 yX6_errorPosition yX6_errorPosition ∈ lw_gd := List.mem_filter.mpr ⟨List.mem_of_getElem? (i := 1761) (by decide +kernel), by decide +kernel⟩
theorem qk_1762 : Cond.code yX6_errorPosition cX6_errorPosition 1 (some .int) ∈ lw_gd := List.mem_filter.mpr ⟨List.mem_of_getElem? (i := 1762) (by decide +kernel), by decide +kernel⟩
theorem qk_1763 : Cond.methodLink "QuakeRehearsalLaw" 239 yX6_account ∈ lw_gd := List.mem_filter.mpr ⟨List.mem_of_getElem? (i := 1763) (by decide +kernel), by decide +kernel⟩
theorem qk_1764 : Cond.instanceMethod yX6_account ∈ lw_gd := List.mem_filter.mpr ⟨List.mem_of_getElem? (i := 1764) (by decide +kernel), by decide +kernel⟩
theorem qk_1765 : Cond.selects RX6 yX6_account yX6_account ∈ lw_gd := List.mem_filter.mpr ⟨List.mem_of_getElem? (i := 1765) (by decide +kernel), by decide +kernel⟩
theorem qk_1766 : Cond.code yX6_account cX6_account 2 (some .int) ∈ lw_gd := List.mem_filter.mpr ⟨List.mem_of_getElem? (i := 1766) (by decide +kernel), by decide +kernel⟩
theorem qk_1767 : Cond.methodLink RX6 249 yX6_brokenMany ∈ lw_gd := List.mem_filter.mpr ⟨List.mem_of_getElem? (i := 1767) (by decide +kernel), by decide +kernel⟩
theorem qk_1769 : Cond.instanceMethod yX6_brokenMany ∈ lw_gd := List.mem_filter.mpr ⟨List.mem_of_getElem? (i := 1769) (by decide +kernel), by decide +kernel⟩
theorem qk_1770 : Cond.code yX6_brokenMany cX6_brokenMany 3 (some .int) ∈ lw_gd := List.mem_filter.mpr ⟨List.mem_of_getElem? (i := 1770) (by decide +kernel), by decide +kernel⟩
theorem qk_1771 : Cond.methodLink "QuakeRehearsalLaw" 244 yX6_isWell ∈ lw_gd := List.mem_filter.mpr ⟨List.mem_of_getElem? (i := 1771) (by decide +kernel), by decide +kernel⟩
theorem qk_1772 : Cond.instanceMethod yX6_isWell ∈ lw_gd := List.mem_filter.mpr ⟨List.mem_of_getElem? (i := 1772) (by decide +kernel), by decide +kernel⟩
theorem qk_1773 : Cond.selects RX6 yX6_isWell yX6_isWell ∈ lw_gd := List.mem_filter.mpr ⟨List.mem_of_getElem? (i := 1773) (by decide +kernel), by decide +kernel⟩
theorem qk_1774 : Cond.code yX6_isWell cX6_isWell 1 (some .boolean) ∈ lw_gd := List.mem_filter.mpr ⟨List.mem_of_getElem? (i := 1774) (by decide +kernel), by decide +kernel⟩
theorem qk_1775 : Cond.methodLink "QuakeRehearsalLaw" 248 yX6_meanGrade ∈ lw_gd := List.mem_filter.mpr ⟨List.mem_of_getElem? (i := 1775) (by decide +kernel), by decide +kernel⟩
theorem qk_1776 : Cond.instanceMethod yX6_meanGrade ∈ lw_gd := List.mem_filter.mpr ⟨List.mem_of_getElem? (i := 1776) (by decide +kernel), by decide +kernel⟩
theorem qk_1777 : Cond.selects RX6 yX6_meanGrade yX6_meanGrade ∈ lw_gd := List.mem_filter.mpr ⟨List.mem_of_getElem? (i := 1777) (by decide +kernel), by decide +kernel⟩
theorem qk_1778 : Cond.code yX6_meanGrade cX6_meanGrade 4 (some .double) ∈ lw_gd := List.mem_filter.mpr ⟨List.mem_of_getElem? (i := 1778) (by decide +kernel), by decide +kernel⟩
theorem qk_1779 : Cond.methodLink "QuakeRehearsalLaw" 251 yX6_brokenShare ∈ lw_gd := List.mem_filter.mpr ⟨List.mem_of_getElem? (i := 1779) (by decide +kernel), by decide +kernel⟩
theorem qk_1780 : Cond.instanceMethod yX6_brokenShare ∈ lw_gd := List.mem_filter.mpr ⟨List.mem_of_getElem? (i := 1780) (by decide +kernel), by decide +kernel⟩
theorem qk_1781 : Cond.selects RX6 yX6_brokenShare yX6_brokenShare ∈ lw_gd := List.mem_filter.mpr ⟨List.mem_of_getElem? (i := 1781) (by decide +kernel), by decide +kernel⟩
theorem qk_1782 : Cond.code yX6_brokenShare cX6_brokenShare 2 (some .float) ∈ lw_gd := List.mem_filter.mpr ⟨List.mem_of_getElem? (i := 1782) (by decide +kernel), by decide +kernel⟩
theorem qk_1783 : Cond.methodLink "QuakeRehearsalLaw" 254 yX6_undo ∈ lw_gd := List.mem_filter.mpr ⟨List.mem_of_getElem? (i := 1783) (by decide +kernel), by decide +kernel⟩
theorem qk_1784 : Cond.instanceMethod yX6_undo ∈ lw_gd := List.mem_filter.mpr ⟨List.mem_of_getElem? (i := 1784) (by decide +kernel), by decide +kernel⟩
theorem qk_1785 : Cond.selects RX6 yX6_undo yX6_undo ∈ lw_gd := List.mem_filter.mpr ⟨List.mem_of_getElem? (i := 1785) (by decide +kernel), by decide +kernel⟩
theorem qk_1786 : Cond.code yX6_undo cX6_undo 1 (some .int) ∈ lw_gd := List.mem_filter.mpr ⟨List.mem_of_getElem? (i := 1786) (by decide +kernel), by decide +kernel⟩
theorem qk_1787 : Cond.methodLink "QuakeRehearsalLaw" 258 yX6_save ∈ lw_gd := List.mem_filter.mpr ⟨List.mem_of_getElem? (i := 1787) (by decide +kernel), by decide +kernel⟩
theorem qk_1788 : Cond.instanceMethod yX6_save ∈ lw_gd := List.mem_filter.mpr ⟨List.mem_of_getElem? (i := 1788) (by decide +kernel), by decide +kernel⟩
theorem qk_1789 : Cond.selects RX6 yX6_save yX6_save ∈ lw_gd := List.mem_filter.mpr ⟨List.mem_of_getElem? (i := 1789) (by decide +kernel), by decide +kernel⟩
theorem qk_1790 : Cond.code yX6_save cX6_save 1 (some .int) ∈ lw_gd := List.mem_filter.mpr ⟨List.mem_of_getElem? (i := 1790) (by decide +kernel), by decide +kernel⟩
theorem qk_1791 : Cond.methodLink "QuakeRehearsalLaw" 261 yX6_restore ∈ lw_gd := List.mem_filter.mpr ⟨List.mem_of_getElem? (i := 1791) (by decide +kernel), by decide +kernel⟩
theorem qk_1792 : Cond.instanceMethod yX6_restore ∈ lw_gd := List.mem_filter.mpr ⟨List.mem_of_getElem? (i := 1792) (by decide +kernel), by decide +kernel⟩
theorem qk_1793 : Cond.selects RX6 yX6_restore yX6_restore ∈ lw_gd := List.mem_filter.mpr ⟨List.mem_of_getElem? (i := 1793) (by decide +kernel), by decide +kernel⟩
theorem qk_1794 : Cond.code yX6_restore cX6_restore 1 (some .int) ∈ lw_gd := List.mem_filter.mpr ⟨List.mem_of_getElem? (i := 1794) (by decide +kernel), by decide +kernel⟩
