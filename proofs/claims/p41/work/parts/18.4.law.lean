theorem qkm_40 : Cond.initialized RJ2 ∈ lw_gd := List.mem_filter.mpr ⟨List.mem_of_getElem? (i := 40) (by decide +kernel), by decide +kernel⟩
theorem qkm_57 : Cond.code objectInit ⟨#[0xb1]⟩ 1 none ∈ lw_gd := List.mem_filter.mpr ⟨List.mem_of_getElem? (i := 57) (by decide +kernel), by decide +kernel⟩
theorem qkm_402 : Cond.static yJ9_abs_0f7a4 ∈ lw_gd := List.mem_filter.mpr ⟨List.mem_of_getElem? (i := 402) (by decide +kernel), by decide +kernel⟩
theorem qkm_881 : Cond.methodLink RJ5 26 yJ2_newBytesFor_77867 ∈ lw_gd := List.mem_filter.mpr ⟨List.mem_of_getElem? (i := 881) (by decide +kernel), by decide +kernel⟩
theorem qkm_882 : Cond.static yJ2_newBytesFor_77867 ∈ lw_gd := List.mem_filter.mpr ⟨List.mem_of_getElem? (i := 882) (by decide +kernel), by decide +kernel⟩
theorem qkm_884 : Cond.methodLink RJ2 11 yJ2_newBytesLength_0f7a4 ∈ lw_gd := List.mem_filter.mpr ⟨List.mem_of_getElem? (i := 884) (by decide +kernel), by decide +kernel⟩
theorem qkm_885 : Cond.static yJ2_newBytesLength_0f7a4 ∈ lw_gd := List.mem_filter.mpr ⟨List.mem_of_getElem? (i := 885) (by decide +kernel), by decide +kernel⟩
theorem qkm_887 : Cond.constant RJ2 20 (1073741823) ∈ lw_gd := List.mem_filter.mpr ⟨List.mem_of_getElem? (i := 887) (by decide +kernel), by decide +kernel⟩
theorem qkm_900 : Cond.superclass RJ4 RJ5 ∈ lw_gd := List.mem_filter.mpr ⟨List.mem_of_getElem? (i := 900) (by decide +kernel), by decide +kernel⟩
theorem qkm_922 : Cond.methodLink RJ0 498 yJ2_charAt_3b067 ∈ lw_gd := List.mem_filter.mpr ⟨List.mem_of_getElem? (i := 922) (by decide +kernel), by decide +kernel⟩
theorem qkm_923 : Cond.static yJ2_charAt_3b067 ∈ lw_gd := List.mem_filter.mpr ⟨List.mem_of_getElem? (i := 923) (by decide +kernel), by decide +kernel⟩
theorem qkm_925 : Cond.methodLink RJ2 67 yJ2_checkIndex_2214a ∈ lw_gd := List.mem_filter.mpr ⟨List.mem_of_getElem? (i := 925) (by decide +kernel), by decide +kernel⟩
theorem qkm_926 : Cond.static yJ2_checkIndex_2214a ∈ lw_gd := List.mem_filter.mpr ⟨List.mem_of_getElem? (i := 926) (by decide +kernel), by decide +kernel⟩
theorem qkm_928 : Cond.methodLink RJ2 48 yJ2_length_9d52b ∈ lw_gd := List.mem_filter.mpr ⟨List.mem_of_getElem? (i := 928) (by decide +kernel), by decide +kernel⟩
theorem qkm_929 : Cond.static yJ2_length_9d52b ∈ lw_gd := List.mem_filter.mpr ⟨List.mem_of_getElem? (i := 929) (by decide +kernel), by decide +kernel⟩
theorem qkm_931 : Cond.methodLink RJ2 414 yJ0_checkIndex_df160 ∈ lw_gd := List.mem_filter.mpr ⟨List.mem_of_getElem? (i := 931) (by decide +kernel), by decide +kernel⟩
theorem qkm_932 : Cond.methodLink RJ2 71 yJ2_getChar_3b067 ∈ lw_gd := List.mem_filter.mpr ⟨List.mem_of_getElem? (i := 932) (by decide +kernel), by decide +kernel⟩
theorem qkm_933 : Cond.static yJ2_getChar_3b067 ∈ lw_gd := List.mem_filter.mpr ⟨List.mem_of_getElem? (i := 933) (by decide +kernel), by decide +kernel⟩
theorem qkm_960 : Cond.constant RJ8 200 (2147483639) ∈ lw_gd := List.mem_filter.mpr ⟨List.mem_of_getElem? (i := 960) (by decide +kernel), by decide +kernel⟩
theorem qkm_961 : Cond.methodLink RJ8 201 yJ8_hugeLength_7cf53 ∈ lw_gd := List.mem_filter.mpr ⟨List.mem_of_getElem? (i := 961) (by decide +kernel), by decide +kernel⟩
theorem qkm_962 : Cond.static yJ8_hugeLength_7cf53 ∈ lw_gd := List.mem_filter.mpr ⟨List.mem_of_getElem? (i := 962) (by decide +kernel), by decide +kernel⟩
theorem qkm_964 : Cond.constant RJ5 39 (2147483647) ∈ lw_gd := List.mem_filter.mpr ⟨List.mem_of_getElem? (i := 964) (by decide +kernel), by decide +kernel⟩
theorem qkm_968 : Cond.methodLink RJ7 310 ⟨"[B", "clone", "()Ljava/lang/Object;"⟩ ∈ lw_gd := List.mem_filter.mpr ⟨List.mem_of_getElem? (i := 968) (by decide +kernel), by decide +kernel⟩
theorem qkm_969 : Cond.sameMethod "[B" "java/lang/Object" "clone" "()Ljava/lang/Object;" ∈ lw_gd := List.mem_filter.mpr ⟨List.mem_of_getElem? (i := 969) (by decide +kernel), by decide +kernel⟩
theorem qkm_970 : Cond.native ⟨"java/lang/Object", "clone", "()Ljava/lang/Object;"⟩ ∈ lw_gd := List.mem_filter.mpr ⟨List.mem_of_getElem? (i := 970) (by decide +kernel), by decide +kernel⟩
theorem qkm_983 : Cond.sameMethod RJ5 RJ5 "isLatin1" "()Z" ∈ lw_gd := List.mem_filter.mpr ⟨List.mem_of_getElem? (i := 983) (by decide +kernel), by decide +kernel⟩
theorem qkm_989 : Cond.methodLink RJ5 195 yJ5_inflate_da8c8 ∈ lw_gd := List.mem_filter.mpr ⟨List.mem_of_getElem? (i := 989) (by decide +kernel), by decide +kernel⟩
theorem qkm_991 : Cond.instanceMethod yJ5_inflate_da8c8 ∈ lw_gd := List.mem_filter.mpr ⟨List.mem_of_getElem? (i := 991) (by decide +kernel), by decide +kernel⟩
theorem qkm_993 : Cond.methodLink RJ5 125 yJ1_inflate_0e8fd ∈ lw_gd := List.mem_filter.mpr ⟨List.mem_of_getElem? (i := 993) (by decide +kernel), by decide +kernel⟩
theorem qkm_994 : Cond.static yJ1_inflate_0e8fd ∈ lw_gd := List.mem_filter.mpr ⟨List.mem_of_getElem? (i := 994) (by decide +kernel), by decide +kernel⟩
theorem qkm_996 : Cond.methodLink RJ1 240 yJ2_inflate_0e8fd ∈ lw_gd := List.mem_filter.mpr ⟨List.mem_of_getElem? (i := 996) (by decide +kernel), by decide +kernel⟩
theorem qkm_997 : Cond.static yJ2_inflate_0e8fd ∈ lw_gd := List.mem_filter.mpr ⟨List.mem_of_getElem? (i := 997) (by decide +kernel), by decide +kernel⟩
theorem qkm_999 : Cond.methodLink RJ2 173 yJ2_checkBoundsOffCount_d044e ∈ lw_gd := List.mem_filter.mpr ⟨List.mem_of_getElem? (i := 999) (by decide +kernel), by decide +kernel⟩
theorem qkm_1000 : Cond.static yJ2_checkBoundsOffCount_d044e ∈ lw_gd := List.mem_filter.mpr ⟨List.mem_of_getElem? (i := 1000) (by decide +kernel), by decide +kernel⟩
theorem qkm_1002 : Cond.methodLink RJ2 419 yJ0_checkBoundsOffCount_cabcc ∈ lw_gd := List.mem_filter.mpr ⟨List.mem_of_getElem? (i := 1002) (by decide +kernel), by decide +kernel⟩
theorem qkm_1003 : Cond.static yJ0_checkBoundsOffCount_cabcc ∈ lw_gd := List.mem_filter.mpr ⟨List.mem_of_getElem? (i := 1003) (by decide +kernel), by decide +kernel⟩
theorem qkm_1005 : Cond.methodLink RJ0 1065 yJ3_checkFromIndexSize_8c36e ∈ lw_gd := List.mem_filter.mpr ⟨List.mem_of_getElem? (i := 1005) (by decide +kernel), by decide +kernel⟩
theorem qkm_1008 : Cond.methodLink RJ2 111 yJ2_putChar_b72d1 ∈ lw_gd := List.mem_filter.mpr ⟨List.mem_of_getElem? (i := 1008) (by decide +kernel), by decide +kernel⟩
theorem qkm_1009 : Cond.static yJ2_putChar_b72d1 ∈ lw_gd := List.mem_filter.mpr ⟨List.mem_of_getElem? (i := 1009) (by decide +kernel), by decide +kernel⟩
theorem qkm_1011 : Cond.methodLink RJ5 197 yJ2_putCharSB_b72d1 ∈ lw_gd := List.mem_filter.mpr ⟨List.mem_of_getElem? (i := 1011) (by decide +kernel), by decide +kernel⟩
theorem qkm_1012 : Cond.static yJ2_putCharSB_b72d1 ∈ lw_gd := List.mem_filter.mpr ⟨List.mem_of_getElem? (i := 1012) (by decide +kernel), by decide +kernel⟩
theorem qkm_1022 : Cond.methodLink RJ5 204 yJ5_appendNull_278bc ∈ lw_gd := List.mem_filter.mpr ⟨List.mem_of_getElem? (i := 1022) (by decide +kernel), by decide +kernel⟩
theorem qkm_1024 : Cond.instanceMethod yJ5_appendNull_278bc ∈ lw_gd := List.mem_filter.mpr ⟨List.mem_of_getElem? (i := 1024) (by decide +kernel), by decide +kernel⟩
theorem qkm_1026 : Cond.methodLink RJ5 226 yJ2_putCharsAt_cd4e5 ∈ lw_gd := List.mem_filter.mpr ⟨List.mem_of_getElem? (i := 1026) (by decide +kernel), by decide +kernel⟩
theorem qkm_1027 : Cond.static yJ2_putCharsAt_cd4e5 ∈ lw_gd := List.mem_filter.mpr ⟨List.mem_of_getElem? (i := 1027) (by decide +kernel), by decide +kernel⟩
theorem qkm_1029 : Cond.methodLink RJ2 96 yJ2_checkBoundsBeginEnd_d044e ∈ lw_gd := List.mem_filter.mpr ⟨List.mem_of_getElem? (i := 1029) (by decide +kernel), by decide +kernel⟩
theorem qkm_1030 : Cond.static yJ2_checkBoundsBeginEnd_d044e ∈ lw_gd := List.mem_filter.mpr ⟨List.mem_of_getElem? (i := 1030) (by decide +kernel), by decide +kernel⟩
theorem qkm_1032 : Cond.methodLink RJ2 241 yJ0_checkBoundsBeginEnd_23922 ∈ lw_gd := List.mem_filter.mpr ⟨List.mem_of_getElem? (i := 1032) (by decide +kernel), by decide +kernel⟩
theorem qkm_1033 : Cond.static yJ0_checkBoundsBeginEnd_23922 ∈ lw_gd := List.mem_filter.mpr ⟨List.mem_of_getElem? (i := 1033) (by decide +kernel), by decide +kernel⟩
theorem qkm_1035 : Cond.methodLink RJ0 1062 yJ3_checkFromToIndex_8c36e ∈ lw_gd := List.mem_filter.mpr ⟨List.mem_of_getElem? (i := 1035) (by decide +kernel), by decide +kernel⟩
theorem qkm_1060 : Cond.methodLink RJ0 106 yJ1_inflate_0e8fd ∈ lw_gd := List.mem_filter.mpr ⟨List.mem_of_getElem? (i := 1060) (by decide +kernel), by decide +kernel⟩
theorem qkm_1078 : Cond.methodLink RJ5 251 yJ2_getChars_46870 ∈ lw_gd := List.mem_filter.mpr ⟨List.mem_of_getElem? (i := 1078) (by decide +kernel), by decide +kernel⟩
theorem qkm_1079 : Cond.static yJ2_getChars_46870 ∈ lw_gd := List.mem_filter.mpr ⟨List.mem_of_getElem? (i := 1079) (by decide +kernel), by decide +kernel⟩
theorem qkm_1081 : Cond.methodLink RJ2 393 yJ2_getChars_ba4f3 ∈ lw_gd := List.mem_filter.mpr ⟨List.mem_of_getElem? (i := 1081) (by decide +kernel), by decide +kernel⟩
theorem qkm_1082 : Cond.static yJ2_getChars_ba4f3 ∈ lw_gd := List.mem_filter.mpr ⟨List.mem_of_getElem? (i := 1082) (by decide +kernel), by decide +kernel⟩
theorem qkm_1101 : Cond.sameMethod RJ5 RJ5 "getValue" "()[B" ∈ lw_gd := List.mem_filter.mpr ⟨List.mem_of_getElem? (i := 1101) (by decide +kernel), by decide +kernel⟩
theorem qkm_1106 : Cond.sameMethod RJ5 RJ5 "length" "()I" ∈ lw_gd := List.mem_filter.mpr ⟨List.mem_of_getElem? (i := 1106) (by decide +kernel), by decide +kernel⟩
theorem qkm_1129 : Cond.methodLink RJ7 65 ⟨"java/lang/IllegalArgumentException", "<init>", "(Ljava/lang/String;)V"⟩ ∈ lw_gd := List.mem_filter.mpr ⟨List.mem_of_getElem? (i := 1129) (by decide +kernel), by decide +kernel⟩
theorem qkm_1130 : Cond.methodLink RJ0 1051 yJ2_compress_39247 ∈ lw_gd := List.mem_filter.mpr ⟨List.mem_of_getElem? (i := 1130) (by decide +kernel), by decide +kernel⟩
theorem qkm_1131 : Cond.static yJ2_compress_39247 ∈ lw_gd := List.mem_filter.mpr ⟨List.mem_of_getElem? (i := 1131) (by decide +kernel), by decide +kernel⟩
theorem qkm_1133 : Cond.methodLink RJ2 123 yJ2_compress_5af95 ∈ lw_gd := List.mem_filter.mpr ⟨List.mem_of_getElem? (i := 1133) (by decide +kernel), by decide +kernel⟩
theorem qkm_1134 : Cond.static yJ2_compress_5af95 ∈ lw_gd := List.mem_filter.mpr ⟨List.mem_of_getElem? (i := 1134) (by decide +kernel), by decide +kernel⟩
theorem qkm_1136 : Cond.methodLink RJ2 126 yJ7_copyOfRange_39247 ∈ lw_gd := List.mem_filter.mpr ⟨List.mem_of_getElem? (i := 1136) (by decide +kernel), by decide +kernel⟩
theorem qkm_1137 : Cond.methodLink RJ0 47 yJ2_coderFromArrayLen_85cad ∈ lw_gd := List.mem_filter.mpr ⟨List.mem_of_getElem? (i := 1137) (by decide +kernel), by decide +kernel⟩
theorem qkm_1138 : Cond.static yJ2_coderFromArrayLen_85cad ∈ lw_gd := List.mem_filter.mpr ⟨List.mem_of_getElem? (i := 1138) (by decide +kernel), by decide +kernel⟩
theorem qkm_1346 : Cond.sameMethod RJ5 RJ5 "append" "(C)Ljava/lang/AbstractStringBuilder;" ∈ lw_gd := List.mem_filter.mpr ⟨List.mem_of_getElem? (i := 1346) (by decide +kernel), by decide +kernel⟩
theorem qkm_1347 : Cond.sameMethod RJ5 RJ5 "ensureCapacityInternal" "(I)V" ∈ lw_gd := List.mem_filter.mpr ⟨List.mem_of_getElem? (i := 1347) (by decide +kernel), by decide +kernel⟩
theorem qkm_1348 : Cond.sameMethod RJ5 RJ5 "newCapacity" "(I)I" ∈ lw_gd := List.mem_filter.mpr ⟨List.mem_of_getElem? (i := 1348) (by decide +kernel), by decide +kernel⟩
theorem qkm_1349 : Cond.sameMethod RJ5 RJ5 "inflate" "()V" ∈ lw_gd := List.mem_filter.mpr ⟨List.mem_of_getElem? (i := 1349) (by decide +kernel), by decide +kernel⟩
theorem qkm_1350 : Cond.sameMethod RJ5 RJ5 "append" "(Ljava/lang/String;)Ljava/lang/AbstractStringBuilder;" ∈ lw_gd := List.mem_filter.mpr ⟨List.mem_of_getElem? (i := 1350) (by decide +kernel), by decide +kernel⟩
theorem qkm_1351 : Cond.sameMethod RJ5 RJ5 "appendNull" "()Ljava/lang/AbstractStringBuilder;" ∈ lw_gd := List.mem_filter.mpr ⟨List.mem_of_getElem? (i := 1351) (by decide +kernel), by decide +kernel⟩
theorem qkm_1352 : Cond.sameMethod RJ5 RJ5 "putStringAt" "(ILjava/lang/String;)V" ∈ lw_gd := List.mem_filter.mpr ⟨List.mem_of_getElem? (i := 1352) (by decide +kernel), by decide +kernel⟩
theorem qkm_1353 : Cond.sameMethod RJ5 RJ5 "inflateIfNeededFor" "(Ljava/lang/String;)V" ∈ lw_gd := List.mem_filter.mpr ⟨List.mem_of_getElem? (i := 1353) (by decide +kernel), by decide +kernel⟩
theorem qkm_1354 : Cond.sameMethod RJ5 RJ5 "append" "(I)Ljava/lang/AbstractStringBuilder;" ∈ lw_gd := List.mem_filter.mpr ⟨List.mem_of_getElem? (i := 1354) (by decide +kernel), by decide +kernel⟩
