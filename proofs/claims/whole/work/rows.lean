section
-- ===== PART A: goes FIRST, ahead of the names: the tables' words, and 'selects' of the private methods out of them =====
/-- a private method of a class that the tables say can be made, by its rows of tables_1 -/
def lw_okq (q : MethodName × Nat) : Prop := (q.1.cls ≠ "java/lang/invoke/MethodHandle" ∧ q.1.cls ≠ "java/lang/invoke/VarHandle") ∧ Cond.instantiable q.1.cls q.2 ∈ tables_1 ∧ Cond.privateMethod q.1 ∈ tables_1 ∧ Cond.instanceMethod q.1 ∈ tables_1
theorem lw_p0 : lw_okq (⟨"QuakeRehearsal", "change", "(III)I"⟩, 11) := ⟨⟨by decide +kernel, by decide +kernel⟩, List.mem_of_getElem? (i := 32) (by decide +kernel), List.mem_of_getElem? (i := 246) (by decide +kernel), List.mem_of_getElem? (i := 247) (by decide +kernel)⟩
theorem lw_p1 : lw_okq (⟨"QuakeRehearsal", "tryOrder", "(III)I"⟩, 11) := ⟨⟨by decide +kernel, by decide +kernel⟩, List.mem_of_getElem? (i := 32) (by decide +kernel), List.mem_of_getElem? (i := 266) (by decide +kernel), List.mem_of_getElem? (i := 267) (by decide +kernel)⟩
theorem lw_p2 : lw_okq (⟨"QuakeRehearsal", "tryPlacing", "(III)I"⟩, 11) := ⟨⟨by decide +kernel, by decide +kernel⟩, List.mem_of_getElem? (i := 32) (by decide +kernel), List.mem_of_getElem? (i := 270) (by decide +kernel), List.mem_of_getElem? (i := 271) (by decide +kernel)⟩
theorem lw_p3 : lw_okq (⟨"QuakeRehearsal", "refuse", "(II)I"⟩, 11) := ⟨⟨by decide +kernel, by decide +kernel⟩, List.mem_of_getElem? (i := 32) (by decide +kernel), List.mem_of_getElem? (i := 277) (by decide +kernel), List.mem_of_getElem? (i := 278) (by decide +kernel)⟩
theorem lw_p4 : lw_okq (⟨"QuakeRehearsal", "answered", "(I)I"⟩, 11) := ⟨⟨by decide +kernel, by decide +kernel⟩, List.mem_of_getElem? (i := 32) (by decide +kernel), List.mem_of_getElem? (i := 293) (by decide +kernel), List.mem_of_getElem? (i := 294) (by decide +kernel)⟩
theorem lw_p5 : lw_okq (⟨"QuakeRehearsal", "tryTaking", "(I)I"⟩, 11) := ⟨⟨by decide +kernel, by decide +kernel⟩, List.mem_of_getElem? (i := 32) (by decide +kernel), List.mem_of_getElem? (i := 297) (by decide +kernel), List.mem_of_getElem? (i := 298) (by decide +kernel)⟩
theorem lw_p6 : lw_okq (⟨"QuakeRehearsal", "tryCueing", "(II)I"⟩, 11) := ⟨⟨by decide +kernel, by decide +kernel⟩, List.mem_of_getElem? (i := 32) (by decide +kernel), List.mem_of_getElem? (i := 305) (by decide +kernel), List.mem_of_getElem? (i := 306) (by decide +kernel)⟩
theorem lw_p7 : lw_okq (⟨"QuakeRehearsal", "trySetting", "(I)I"⟩, 11) := ⟨⟨by decide +kernel, by decide +kernel⟩, List.mem_of_getElem? (i := 32) (by decide +kernel), List.mem_of_getElem? (i := 313) (by decide +kernel), List.mem_of_getElem? (i := 314) (by decide +kernel)⟩
theorem lw_p8 : lw_okq (⟨"QuakeRehearsal", "tryAdding", "(I)I"⟩, 11) := ⟨⟨by decide +kernel, by decide +kernel⟩, List.mem_of_getElem? (i := 32) (by decide +kernel), List.mem_of_getElem? (i := 373) (by decide +kernel), List.mem_of_getElem? (i := 374) (by decide +kernel)⟩
theorem lw_p9 : lw_okq (⟨"QuakeRehearsal", "marksInThought", "(I)I"⟩, 11) := ⟨⟨by decide +kernel, by decide +kernel⟩, List.mem_of_getElem? (i := 32) (by decide +kernel), List.mem_of_getElem? (i := 415) (by decide +kernel), List.mem_of_getElem? (i := 416) (by decide +kernel)⟩
theorem lw_p10 : lw_okq (⟨"QuakeRehearsal", "isReachAlike", "()Z"⟩, 11) := ⟨⟨by decide +kernel, by decide +kernel⟩, List.mem_of_getElem? (i := 32) (by decide +kernel), List.mem_of_getElem? (i := 444) (by decide +kernel), List.mem_of_getElem? (i := 445) (by decide +kernel)⟩
theorem lw_p11 : lw_okq (⟨"QuakeRehearsal", "areBreakagesAlike", "()Z"⟩, 11) := ⟨⟨by decide +kernel, by decide +kernel⟩, List.mem_of_getElem? (i := 32) (by decide +kernel), List.mem_of_getElem? (i := 457) (by decide +kernel), List.mem_of_getElem? (i := 458) (by decide +kernel)⟩
theorem lw_p12 : lw_okq (⟨"QuakeRehearsal", "breakagesInThought", "(I)I"⟩, 11) := ⟨⟨by decide +kernel, by decide +kernel⟩, List.mem_of_getElem? (i := 32) (by decide +kernel), List.mem_of_getElem? (i := 461) (by decide +kernel), List.mem_of_getElem? (i := 462) (by decide +kernel)⟩
theorem lw_p13 : lw_okq (⟨"QuakeRehearsal", "placed", "(III)I"⟩, 11) := ⟨⟨by decide +kernel, by decide +kernel⟩, List.mem_of_getElem? (i := 32) (by decide +kernel), List.mem_of_getElem? (i := 495) (by decide +kernel), List.mem_of_getElem? (i := 496) (by decide +kernel)⟩
theorem lw_p14 : lw_okq (⟨"java/lang/Throwable", "fillInStackTrace", "(I)Ljava/lang/Throwable;"⟩, 6) := ⟨⟨by decide +kernel, by decide +kernel⟩, List.mem_of_getElem? (i := 541) (by decide +kernel), List.mem_of_getElem? (i := 539) (by decide +kernel), List.mem_of_getElem? (i := 540) (by decide +kernel)⟩
theorem lw_p15 : lw_okq (⟨"QuakeRehearsal", "strengthTold", "(II)I"⟩, 11) := ⟨⟨by decide +kernel, by decide +kernel⟩, List.mem_of_getElem? (i := 32) (by decide +kernel), List.mem_of_getElem? (i := 661) (by decide +kernel), List.mem_of_getElem? (i := 662) (by decide +kernel)⟩
def lw_privs_1 : List (MethodName × Nat) := [(⟨"QuakeRehearsal", "change", "(III)I"⟩, 11), (⟨"QuakeRehearsal", "tryOrder", "(III)I"⟩, 11), (⟨"QuakeRehearsal", "tryPlacing", "(III)I"⟩, 11), (⟨"QuakeRehearsal", "refuse", "(II)I"⟩, 11), (⟨"QuakeRehearsal", "answered", "(I)I"⟩, 11), (⟨"QuakeRehearsal", "tryTaking", "(I)I"⟩, 11), (⟨"QuakeRehearsal", "tryCueing", "(II)I"⟩, 11), (⟨"QuakeRehearsal", "trySetting", "(I)I"⟩, 11), (⟨"QuakeRehearsal", "tryAdding", "(I)I"⟩, 11), (⟨"QuakeRehearsal", "marksInThought", "(I)I"⟩, 11), (⟨"QuakeRehearsal", "isReachAlike", "()Z"⟩, 11), (⟨"QuakeRehearsal", "areBreakagesAlike", "()Z"⟩, 11), (⟨"QuakeRehearsal", "breakagesInThought", "(I)I"⟩, 11), (⟨"QuakeRehearsal", "placed", "(III)I"⟩, 11), (⟨"java/lang/Throwable", "fillInStackTrace", "(I)Ljava/lang/Throwable;"⟩, 6), (⟨"QuakeRehearsal", "strengthTold", "(II)I"⟩, 11)]
theorem lw_r1 : ∀ q ∈ lw_privs_1, lw_okq q := List.forall_mem_cons.mpr ⟨lw_p0, List.forall_mem_cons.mpr ⟨lw_p1, List.forall_mem_cons.mpr ⟨lw_p2, List.forall_mem_cons.mpr ⟨lw_p3, List.forall_mem_cons.mpr ⟨lw_p4, List.forall_mem_cons.mpr ⟨lw_p5, List.forall_mem_cons.mpr ⟨lw_p6, List.forall_mem_cons.mpr ⟨lw_p7, List.forall_mem_cons.mpr ⟨lw_p8, List.forall_mem_cons.mpr ⟨lw_p9, List.forall_mem_cons.mpr ⟨lw_p10, List.forall_mem_cons.mpr ⟨lw_p11, List.forall_mem_cons.mpr ⟨lw_p12, List.forall_mem_cons.mpr ⟨lw_p13, List.forall_mem_cons.mpr ⟨lw_p14, List.forall_mem_cons.mpr ⟨lw_p15, fun _ h => absurd h List.not_mem_nil⟩⟩⟩⟩⟩⟩⟩⟩⟩⟩⟩⟩⟩⟩⟩⟩
theorem lw_p16 : lw_okq (⟨"QuakeRehearsal", "propNumbered", "(I)LQuakeRehearsal$Prop;"⟩, 11) := ⟨⟨by decide +kernel, by decide +kernel⟩, List.mem_of_getElem? (i := 32) (by decide +kernel), List.mem_of_getElem? (i := 689) (by decide +kernel), List.mem_of_getElem? (i := 690) (by decide +kernel)⟩
theorem lw_p17 : lw_okq (⟨"QuakeRehearsal", "numberInOrder", "(II)I"⟩, 11) := ⟨⟨by decide +kernel, by decide +kernel⟩, List.mem_of_getElem? (i := 32) (by decide +kernel), List.mem_of_getElem? (i := 773) (by decide +kernel), List.mem_of_getElem? (i := 774) (by decide +kernel)⟩
theorem lw_p18 : lw_okq (⟨"QuakeRehearsalModel", "keep", "()V"⟩, 21) := ⟨⟨by decide +kernel, by decide +kernel⟩, List.mem_of_getElem? (i := 1063) (by decide +kernel), List.mem_of_getElem? (i := 1145) (by decide +kernel), List.mem_of_getElem? (i := 1146) (by decide +kernel)⟩
theorem lw_p19 : lw_okq (⟨"QuakeRehearsalModel", "comes", "(III)I"⟩, 21) := ⟨⟨by decide +kernel, by decide +kernel⟩, List.mem_of_getElem? (i := 1063) (by decide +kernel), List.mem_of_getElem? (i := 1152) (by decide +kernel), List.mem_of_getElem? (i := 1153) (by decide +kernel)⟩
theorem lw_p20 : lw_okq (⟨"QuakeRehearsalModel", "fails", "(I)I"⟩, 21) := ⟨⟨by decide +kernel, by decide +kernel⟩, List.mem_of_getElem? (i := 1063) (by decide +kernel), List.mem_of_getElem? (i := 1162) (by decide +kernel), List.mem_of_getElem? (i := 1163) (by decide +kernel)⟩
theorem lw_p21 : lw_okq (⟨"QuakeRehearsalModel", "refuse", "(III)I"⟩, 21) := ⟨⟨by decide +kernel, by decide +kernel⟩, List.mem_of_getElem? (i := 1063) (by decide +kernel), List.mem_of_getElem? (i := 1166) (by decide +kernel), List.mem_of_getElem? (i := 1167) (by decide +kernel)⟩
theorem lw_p22 : lw_okq (⟨"QuakeRehearsalModel", "there", "(II)I"⟩, 21) := ⟨⟨by decide +kernel, by decide +kernel⟩, List.mem_of_getElem? (i := 1063) (by decide +kernel), List.mem_of_getElem? (i := 1170) (by decide +kernel), List.mem_of_getElem? (i := 1171) (by decide +kernel)⟩
theorem lw_p23 : lw_okq (⟨"QuakeRehearsalModel", "of", "(II)I"⟩, 21) := ⟨⟨by decide +kernel, by decide +kernel⟩, List.mem_of_getElem? (i := 1063) (by decide +kernel), List.mem_of_getElem? (i := 1174) (by decide +kernel), List.mem_of_getElem? (i := 1175) (by decide +kernel)⟩
theorem lw_p24 : lw_okq (⟨"QuakeRehearsalModel", "sets", "(III)V"⟩, 21) := ⟨⟨by decide +kernel, by decide +kernel⟩, List.mem_of_getElem? (i := 1063) (by decide +kernel), List.mem_of_getElem? (i := 1178) (by decide +kernel), List.mem_of_getElem? (i := 1179) (by decide +kernel)⟩
theorem lw_p25 : lw_okq (⟨"QuakeRehearsalModel", "ends", "(I)I"⟩, 21) := ⟨⟨by decide +kernel, by decide +kernel⟩, List.mem_of_getElem? (i := 1063) (by decide +kernel), List.mem_of_getElem? (i := 1182) (by decide +kernel), List.mem_of_getElem? (i := 1183) (by decide +kernel)⟩
theorem lw_p26 : lw_okq (⟨"QuakeRehearsalModel", "doTake", "(I)I"⟩, 21) := ⟨⟨by decide +kernel, by decide +kernel⟩, List.mem_of_getElem? (i := 1063) (by decide +kernel), List.mem_of_getElem? (i := 1198) (by decide +kernel), List.mem_of_getElem? (i := 1199) (by decide +kernel)⟩
theorem lw_p27 : lw_okq (⟨"QuakeRehearsalModel", "isProp", "(I)Z"⟩, 21) := ⟨⟨by decide +kernel, by decide +kernel⟩, List.mem_of_getElem? (i := 1063) (by decide +kernel), List.mem_of_getElem? (i := 1202) (by decide +kernel), List.mem_of_getElem? (i := 1203) (by decide +kernel)⟩
theorem lw_p28 : lw_okq (⟨"QuakeRehearsalModel", "doCue", "(II)I"⟩, 21) := ⟨⟨by decide +kernel, by decide +kernel⟩, List.mem_of_getElem? (i := 1063) (by decide +kernel), List.mem_of_getElem? (i := 1210) (by decide +kernel), List.mem_of_getElem? (i := 1211) (by decide +kernel)⟩
theorem lw_p29 : lw_okq (⟨"QuakeRehearsalModel", "doSet", "(I)I"⟩, 21) := ⟨⟨by decide +kernel, by decide +kernel⟩, List.mem_of_getElem? (i := 1063) (by decide +kernel), List.mem_of_getElem? (i := 1218) (by decide +kernel), List.mem_of_getElem? (i := 1219) (by decide +kernel)⟩
theorem lw_p30 : lw_okq (⟨"QuakeRehearsalModel", "shocks", "(I)I"⟩, 21) := ⟨⟨by decide +kernel, by decide +kernel⟩, List.mem_of_getElem? (i := 1063) (by decide +kernel), List.mem_of_getElem? (i := 1229) (by decide +kernel), List.mem_of_getElem? (i := 1230) (by decide +kernel)⟩
theorem lw_p31 : lw_okq (⟨"QuakeRehearsalModel", "strengthOn", "(II)I"⟩, 21) := ⟨⟨by decide +kernel, by decide +kernel⟩, List.mem_of_getElem? (i := 1063) (by decide +kernel), List.mem_of_getElem? (i := 1233) (by decide +kernel), List.mem_of_getElem? (i := 1234) (by decide +kernel)⟩
def lw_privs_2 : List (MethodName × Nat) := [(⟨"QuakeRehearsal", "propNumbered", "(I)LQuakeRehearsal$Prop;"⟩, 11), (⟨"QuakeRehearsal", "numberInOrder", "(II)I"⟩, 11), (⟨"QuakeRehearsalModel", "keep", "()V"⟩, 21), (⟨"QuakeRehearsalModel", "comes", "(III)I"⟩, 21), (⟨"QuakeRehearsalModel", "fails", "(I)I"⟩, 21), (⟨"QuakeRehearsalModel", "refuse", "(III)I"⟩, 21), (⟨"QuakeRehearsalModel", "there", "(II)I"⟩, 21), (⟨"QuakeRehearsalModel", "of", "(II)I"⟩, 21), (⟨"QuakeRehearsalModel", "sets", "(III)V"⟩, 21), (⟨"QuakeRehearsalModel", "ends", "(I)I"⟩, 21), (⟨"QuakeRehearsalModel", "doTake", "(I)I"⟩, 21), (⟨"QuakeRehearsalModel", "isProp", "(I)Z"⟩, 21), (⟨"QuakeRehearsalModel", "doCue", "(II)I"⟩, 21), (⟨"QuakeRehearsalModel", "doSet", "(I)I"⟩, 21), (⟨"QuakeRehearsalModel", "shocks", "(I)I"⟩, 21), (⟨"QuakeRehearsalModel", "strengthOn", "(II)I"⟩, 21)]
theorem lw_r2 : ∀ q ∈ lw_privs_2, lw_okq q := List.forall_mem_cons.mpr ⟨lw_p16, List.forall_mem_cons.mpr ⟨lw_p17, List.forall_mem_cons.mpr ⟨lw_p18, List.forall_mem_cons.mpr ⟨lw_p19, List.forall_mem_cons.mpr ⟨lw_p20, List.forall_mem_cons.mpr ⟨lw_p21, List.forall_mem_cons.mpr ⟨lw_p22, List.forall_mem_cons.mpr ⟨lw_p23, List.forall_mem_cons.mpr ⟨lw_p24, List.forall_mem_cons.mpr ⟨lw_p25, List.forall_mem_cons.mpr ⟨lw_p26, List.forall_mem_cons.mpr ⟨lw_p27, List.forall_mem_cons.mpr ⟨lw_p28, List.forall_mem_cons.mpr ⟨lw_p29, List.forall_mem_cons.mpr ⟨lw_p30, List.forall_mem_cons.mpr ⟨lw_p31, fun _ h => absurd h List.not_mem_nil⟩⟩⟩⟩⟩⟩⟩⟩⟩⟩⟩⟩⟩⟩⟩⟩
theorem lw_p32 : lw_okq (⟨"QuakeRehearsalModel", "shakes", "(II)Z"⟩, 21) := ⟨⟨by decide +kernel, by decide +kernel⟩, List.mem_of_getElem? (i := 1063) (by decide +kernel), List.mem_of_getElem? (i := 1240) (by decide +kernel), List.mem_of_getElem? (i := 1241) (by decide +kernel)⟩
theorem lw_p33 : lw_okq (⟨"QuakeRehearsalModel", "swings", "(III)Z"⟩, 21) := ⟨⟨by decide +kernel, by decide +kernel⟩, List.mem_of_getElem? (i := 1063) (by decide +kernel), List.mem_of_getElem? (i := 1244) (by decide +kernel), List.mem_of_getElem? (i := 1245) (by decide +kernel)⟩
theorem lw_p34 : lw_okq (⟨"QuakeRehearsalModel", "marks", "(IIZ)I"⟩, 21) := ⟨⟨by decide +kernel, by decide +kernel⟩, List.mem_of_getElem? (i := 1063) (by decide +kernel), List.mem_of_getElem? (i := 1248) (by decide +kernel), List.mem_of_getElem? (i := 1249) (by decide +kernel)⟩
theorem lw_p35 : lw_okq (⟨"QuakeRehearsalModel", "doAdd", "(I)I"⟩, 21) := ⟨⟨by decide +kernel, by decide +kernel⟩, List.mem_of_getElem? (i := 1063) (by decide +kernel), List.mem_of_getElem? (i := 1257) (by decide +kernel), List.mem_of_getElem? (i := 1258) (by decide +kernel)⟩
theorem lw_p36 : lw_okq (⟨"QuakeRehearsalModel", "doPerform", "()I"⟩, 21) := ⟨⟨by decide +kernel, by decide +kernel⟩, List.mem_of_getElem? (i := 1063) (by decide +kernel), List.mem_of_getElem? (i := 1265) (by decide +kernel), List.mem_of_getElem? (i := 1266) (by decide +kernel)⟩
theorem lw_p37 : lw_okq (⟨"QuakeRehearsalModel", "kindMany", "(I)I"⟩, 21) := ⟨⟨by decide +kernel, by decide +kernel⟩, List.mem_of_getElem? (i := 1063) (by decide +kernel), List.mem_of_getElem? (i := 1269) (by decide +kernel), List.mem_of_getElem? (i := 1270) (by decide +kernel)⟩
theorem lw_p38 : lw_okq (⟨"QuakeRehearsalModel", "doQuiet", "()I"⟩, 21) := ⟨⟨by decide +kernel, by decide +kernel⟩, List.mem_of_getElem? (i := 1063) (by decide +kernel), List.mem_of_getElem? (i := 1277) (by decide +kernel), List.mem_of_getElem? (i := 1278) (by decide +kernel)⟩
theorem lw_p39 : lw_okq (⟨"QuakeRehearsalModel", "would", "(IZ)I"⟩, 21) := ⟨⟨by decide +kernel, by decide +kernel⟩, List.mem_of_getElem? (i := 1063) (by decide +kernel), List.mem_of_getElem? (i := 1297) (by decide +kernel), List.mem_of_getElem? (i := 1298) (by decide +kernel)⟩
theorem lw_p40 : lw_okq (⟨"QuakeRehearsalModel", "thinks", "()V"⟩, 21) := ⟨⟨by decide +kernel, by decide +kernel⟩, List.mem_of_getElem? (i := 1063) (by decide +kernel), List.mem_of_getElem? (i := 1301) (by decide +kernel), List.mem_of_getElem? (i := 1302) (by decide +kernel)⟩
theorem lw_p41 : lw_okq (⟨"QuakeRehearsalModel", "forgets", "()V"⟩, 21) := ⟨⟨by decide +kernel, by decide +kernel⟩, List.mem_of_getElem? (i := 1063) (by decide +kernel), List.mem_of_getElem? (i := 1305) (by decide +kernel), List.mem_of_getElem? (i := 1306) (by decide +kernel)⟩
theorem lw_p42 : lw_okq (⟨"QuakeRehearsalModel", "placed", "(II)I"⟩, 21) := ⟨⟨by decide +kernel, by decide +kernel⟩, List.mem_of_getElem? (i := 1063) (by decide +kernel), List.mem_of_getElem? (i := 1337) (by decide +kernel), List.mem_of_getElem? (i := 1338) (by decide +kernel)⟩
theorem lw_p43 : lw_okq (⟨"QuakeRehearsalModel", "ahead", "(III)I"⟩, 21) := ⟨⟨by decide +kernel, by decide +kernel⟩, List.mem_of_getElem? (i := 1063) (by decide +kernel), List.mem_of_getElem? (i := 1341) (by decide +kernel), List.mem_of_getElem? (i := 1342) (by decide +kernel)⟩
theorem lw_p44 : lw_okq (⟨"QuakeRehearsalModel", "says", "(C)V"⟩, 21) := ⟨⟨by decide +kernel, by decide +kernel⟩, List.mem_of_getElem? (i := 1063) (by decide +kernel), List.mem_of_getElem? (i := 1363) (by decide +kernel), List.mem_of_getElem? (i := 1364) (by decide +kernel)⟩
theorem lw_p45 : lw_okq (⟨"QuakeRehearsalModel", "saysNumber", "(I)V"⟩, 21) := ⟨⟨by decide +kernel, by decide +kernel⟩, List.mem_of_getElem? (i := 1063) (by decide +kernel), List.mem_of_getElem? (i := 1367) (by decide +kernel), List.mem_of_getElem? (i := 1368) (by decide +kernel)⟩
theorem lw_p46 : lw_okq (⟨"QuakeRehearsalModel", "saysValue", "(I)V"⟩, 21) := ⟨⟨by decide +kernel, by decide +kernel⟩, List.mem_of_getElem? (i := 1063) (by decide +kernel), List.mem_of_getElem? (i := 1371) (by decide +kernel), List.mem_of_getElem? (i := 1372) (by decide +kernel)⟩
theorem lw_p47 : lw_okq (⟨"QuakeRehearsalModel", "readOrder", "()V"⟩, 21) := ⟨⟨by decide +kernel, by decide +kernel⟩, List.mem_of_getElem? (i := 1063) (by decide +kernel), List.mem_of_getElem? (i := 1391) (by decide +kernel), List.mem_of_getElem? (i := 1392) (by decide +kernel)⟩
def lw_privs_3 : List (MethodName × Nat) := [(⟨"QuakeRehearsalModel", "shakes", "(II)Z"⟩, 21), (⟨"QuakeRehearsalModel", "swings", "(III)Z"⟩, 21), (⟨"QuakeRehearsalModel", "marks", "(IIZ)I"⟩, 21), (⟨"QuakeRehearsalModel", "doAdd", "(I)I"⟩, 21), (⟨"QuakeRehearsalModel", "doPerform", "()I"⟩, 21), (⟨"QuakeRehearsalModel", "kindMany", "(I)I"⟩, 21), (⟨"QuakeRehearsalModel", "doQuiet", "()I"⟩, 21), (⟨"QuakeRehearsalModel", "would", "(IZ)I"⟩, 21), (⟨"QuakeRehearsalModel", "thinks", "()V"⟩, 21), (⟨"QuakeRehearsalModel", "forgets", "()V"⟩, 21), (⟨"QuakeRehearsalModel", "placed", "(II)I"⟩, 21), (⟨"QuakeRehearsalModel", "ahead", "(III)I"⟩, 21), (⟨"QuakeRehearsalModel", "says", "(C)V"⟩, 21), (⟨"QuakeRehearsalModel", "saysNumber", "(I)V"⟩, 21), (⟨"QuakeRehearsalModel", "saysValue", "(I)V"⟩, 21), (⟨"QuakeRehearsalModel", "readOrder", "()V"⟩, 21)]
theorem lw_r3 : ∀ q ∈ lw_privs_3, lw_okq q := List.forall_mem_cons.mpr ⟨lw_p32, List.forall_mem_cons.mpr ⟨lw_p33, List.forall_mem_cons.mpr ⟨lw_p34, List.forall_mem_cons.mpr ⟨lw_p35, List.forall_mem_cons.mpr ⟨lw_p36, List.forall_mem_cons.mpr ⟨lw_p37, List.forall_mem_cons.mpr ⟨lw_p38, List.forall_mem_cons.mpr ⟨lw_p39, List.forall_mem_cons.mpr ⟨lw_p40, List.forall_mem_cons.mpr ⟨lw_p41, List.forall_mem_cons.mpr ⟨lw_p42, List.forall_mem_cons.mpr ⟨lw_p43, List.forall_mem_cons.mpr ⟨lw_p44, List.forall_mem_cons.mpr ⟨lw_p45, List.forall_mem_cons.mpr ⟨lw_p46, List.forall_mem_cons.mpr ⟨lw_p47, fun _ h => absurd h List.not_mem_nil⟩⟩⟩⟩⟩⟩⟩⟩⟩⟩⟩⟩⟩⟩⟩⟩
theorem lw_p48 : lw_okq (⟨"QuakeRehearsalModel", "word", "()I"⟩, 21) := ⟨⟨by decide +kernel, by decide +kernel⟩, List.mem_of_getElem? (i := 1063) (by decide +kernel), List.mem_of_getElem? (i := 1395) (by decide +kernel), List.mem_of_getElem? (i := 1396) (by decide +kernel)⟩
theorem lw_p49 : lw_okq (⟨"QuakeRehearsalModel", "common", "(Ljava/lang/String;)I"⟩, 21) := ⟨⟨by decide +kernel, by decide +kernel⟩, List.mem_of_getElem? (i := 1063) (by decide +kernel), List.mem_of_getElem? (i := 1674) (by decide +kernel), List.mem_of_getElem? (i := 1675) (by decide +kernel)⟩
theorem lw_p50 : lw_okq (⟨"QuakeRehearsalModel", "skip", "(Ljava/lang/String;)V"⟩, 21) := ⟨⟨by decide +kernel, by decide +kernel⟩, List.mem_of_getElem? (i := 1063) (by decide +kernel), List.mem_of_getElem? (i := 1678) (by decide +kernel), List.mem_of_getElem? (i := 1679) (by decide +kernel)⟩
theorem lw_p51 : lw_okq (⟨"QuakeRehearsalModel", "sign", "(CC)I"⟩, 21) := ⟨⟨by decide +kernel, by decide +kernel⟩, List.mem_of_getElem? (i := 1063) (by decide +kernel), List.mem_of_getElem? (i := 1682) (by decide +kernel), List.mem_of_getElem? (i := 1683) (by decide +kernel)⟩
theorem lw_p52 : lw_okq (⟨"QuakeRehearsalModel", "isHere", "(CC)Z"⟩, 21) := ⟨⟨by decide +kernel, by decide +kernel⟩, List.mem_of_getElem? (i := 1063) (by decide +kernel), List.mem_of_getElem? (i := 1686) (by decide +kernel), List.mem_of_getElem? (i := 1687) (by decide +kernel)⟩
theorem lw_p53 : lw_okq (⟨"QuakeRehearsalModel", "number", "()I"⟩, 21) := ⟨⟨by decide +kernel, by decide +kernel⟩, List.mem_of_getElem? (i := 1063) (by decide +kernel), List.mem_of_getElem? (i := 1691) (by decide +kernel), List.mem_of_getElem? (i := 1692) (by decide +kernel)⟩
theorem lw_p54 : lw_okq (⟨"QuakeRehearsalModel", "digit", "()I"⟩, 21) := ⟨⟨by decide +kernel, by decide +kernel⟩, List.mem_of_getElem? (i := 1063) (by decide +kernel), List.mem_of_getElem? (i := 1695) (by decide +kernel), List.mem_of_getElem? (i := 1696) (by decide +kernel)⟩
theorem lw_p55 : lw_okq (⟨"QuakeRehearsalModel", "does", "(I)V"⟩, 21) := ⟨⟨by decide +kernel, by decide +kernel⟩, List.mem_of_getElem? (i := 1063) (by decide +kernel), List.mem_of_getElem? (i := 1699) (by decide +kernel), List.mem_of_getElem? (i := 1700) (by decide +kernel)⟩
theorem lw_p56 : lw_okq (⟨"QuakeRehearsalModel", "brokenMany", "()I"⟩, 21) := ⟨⟨by decide +kernel, by decide +kernel⟩, List.mem_of_getElem? (i := 1063) (by decide +kernel), List.mem_of_getElem? (i := 1711) (by decide +kernel), List.mem_of_getElem? (i := 1712) (by decide +kernel)⟩
def lw_privs_4 : List (MethodName × Nat) := [(⟨"QuakeRehearsalModel", "word", "()I"⟩, 21), (⟨"QuakeRehearsalModel", "common", "(Ljava/lang/String;)I"⟩, 21), (⟨"QuakeRehearsalModel", "skip", "(Ljava/lang/String;)V"⟩, 21), (⟨"QuakeRehearsalModel", "sign", "(CC)I"⟩, 21), (⟨"QuakeRehearsalModel", "isHere", "(CC)Z"⟩, 21), (⟨"QuakeRehearsalModel", "number", "()I"⟩, 21), (⟨"QuakeRehearsalModel", "digit", "()I"⟩, 21), (⟨"QuakeRehearsalModel", "does", "(I)V"⟩, 21), (⟨"QuakeRehearsalModel", "brokenMany", "()I"⟩, 21)]
theorem lw_r4 : ∀ q ∈ lw_privs_4, lw_okq q := List.forall_mem_cons.mpr ⟨lw_p48, List.forall_mem_cons.mpr ⟨lw_p49, List.forall_mem_cons.mpr ⟨lw_p50, List.forall_mem_cons.mpr ⟨lw_p51, List.forall_mem_cons.mpr ⟨lw_p52, List.forall_mem_cons.mpr ⟨lw_p53, List.forall_mem_cons.mpr ⟨lw_p54, List.forall_mem_cons.mpr ⟨lw_p55, List.forall_mem_cons.mpr ⟨lw_p56, fun _ h => absurd h List.not_mem_nil⟩⟩⟩⟩⟩⟩⟩⟩⟩
def lw_privs : List (MethodName × Nat) := lw_privs_1 ++ (lw_privs_2 ++ (lw_privs_3 ++ (lw_privs_4)))
def lw_tbl : List Cond := k2_sels lw_privs ++ tables_1
theorem lw_privs_ok : ∀ q ∈ lw_privs, lw_okq q := by
  show ∀ q ∈ lw_privs_1 ++ (lw_privs_2 ++ (lw_privs_3 ++ (lw_privs_4))), lw_okq q
  exact List.forall_mem_append.mpr ⟨lw_r1, List.forall_mem_append.mpr ⟨lw_r2, List.forall_mem_append.mpr ⟨lw_r3, lw_r4⟩⟩⟩
/-- the streams that the claim lets the run draw from -/
abbrev lw_cs : List Choice := [Jvm.Choice.named "NaN.bits"]
theorem lw_bits : nanBits ∈ lw_cs := by first | decide | exact List.mem_cons_self | simp [lw_cs, nanBits]
-- ===== end of PART A; then your names; then what follows =====
def RX0 : String := "QuakeRehearsal$Hall"
def TX0 : u_T := fun k => match k with
  | 0 => ("QuakeRehearsal$Hall", "props", "[LQuakeRehearsal$Prop;", true)
  | 1 => ("QuakeRehearsal$Hall", "nobody", "LQuakeRehearsal$Prop;", true)
  | 2 => ("QuakeRehearsal$Hall", "propCount", "I", false)
  | 3 => ("QuakeRehearsal$Hall", "planned", "[I", true)
  | 4 => ("QuakeRehearsal$Hall", "plannedCount", "I", false)
  | 5 => ("QuakeRehearsal$Hall", "strength", "I", false)
  | 6 => ("QuakeRehearsal$Hall", "shocks", "I", false)
  | 7 => ("QuakeRehearsal$Hall", "encores", "I", false)
  | 8 => ("QuakeRehearsal$Hall", "marks", "I", false)
  | 9 => ("QuakeRehearsal$Hall", "breakages", "I", false)
  | 10 => ("QuakeRehearsal$Hall", "hasCat", "[Z", true)
  | 11 => ("QuakeRehearsal$Hall", "reach", "[I", true)
  | _ => ("QuakeRehearsal$Hall", "hasBreakage", "[Z", true)
def tyX0 : Nat → FieldType := fun k => match k with
  | 0 => .array (.object "QuakeRehearsal$Prop")
  | 1 => .object "QuakeRehearsal$Prop"
  | 2 => .int
  | 3 => .array .int
  | 4 => .int
  | 5 => .int
  | 6 => .int
  | 7 => .int
  | 8 => .int
  | 9 => .int
  | 10 => .array .boolean
  | 11 => .array .int
  | _ => .array .boolean
abbrev wsX00 : List Cond := u_ws RX0 TX0 13
theorem nmX0 : ∀ a, a < 13 → ∀ b, b < 13 → a ≠ b → (TX0 a).2.1 ≠ (TX0 b).2.1 := by decide +kernel
theorem tyX0_ok : ∀ k, k < 13 → parseFieldDescriptor (TX0 k).2.2.1 = some (tyX0 k) := by decide +kernel
abbrev cX0_init : ByteArray := prog_2_method_1_code
def yX0_init : MethodName := ⟨RX0, "<init>", "()V"⟩
abbrev cX0_propAt : ByteArray := prog_2_method_2_code
def yX0_propAt : MethodName := ⟨RX0, "propAt", "(I)LQuakeRehearsal$Prop;"⟩
abbrev cX0_plannedAt : ByteArray := prog_2_method_3_code
def yX0_plannedAt : MethodName := ⟨RX0, "plannedAt", "(I)I"⟩
abbrev cX0_copyFrom : ByteArray := prog_2_method_4_code
def yX0_copyFrom : MethodName := ⟨RX0, "copyFrom", "(LQuakeRehearsal$Hall;)V"⟩
abbrev cX0_placeProp : ByteArray := prog_2_method_5_code
def yX0_placeProp : MethodName := ⟨RX0, "placeProp", "(III)I"⟩
abbrev cX0_removeProp : ByteArray := prog_2_method_6_code
def yX0_removeProp : MethodName := ⟨RX0, "removeProp", "(I)I"⟩
abbrev cX0_plan : ByteArray := prog_2_method_7_code
def yX0_plan : MethodName := ⟨RX0, "plan", "(I)I"⟩
abbrev cX0_countOf : ByteArray := prog_2_method_8_code
def yX0_countOf : MethodName := ⟨RX0, "countOf", "(I)I"⟩
abbrev cX0_countOn : ByteArray := prog_2_method_9_code
def yX0_countOn : MethodName := ⟨RX0, "countOn", "(II)I"⟩
abbrev cX0_countBroken : ByteArray := prog_2_method_10_code
def yX0_countBroken : MethodName := ⟨RX0, "countBroken", "()I"⟩
abbrev cX0_sumOfGrades : ByteArray := prog_2_method_11_code
def yX0_sumOfGrades : MethodName := ⟨RX0, "sumOfGrades", "()I"⟩
abbrev cX0_reachFloorByFloor : ByteArray := prog_2_method_12_code
def yX0_reachFloorByFloor : MethodName := ⟨RX0, "reachFloorByFloor", "(II)I"⟩
abbrev cX0_reachAgain : ByteArray := prog_2_method_13_code
def yX0_reachAgain : MethodName := ⟨RX0, "reachAgain", "(II)I"⟩
abbrev cX0_spread : ByteArray := prog_2_method_14_code
def yX0_spread : MethodName := ⟨RX0, "spread", "(I)V"⟩
abbrev cX0_findCats : ByteArray := prog_2_method_15_code
def yX0_findCats : MethodName := ⟨RX0, "findCats", "()V"⟩
abbrev cX0_reachOn : ByteArray := prog_2_method_16_code
def yX0_reachOn : MethodName := ⟨RX0, "reachOn", "(I)I"⟩
abbrev cX0_isFrightening : ByteArray := prog_2_method_17_code
def yX0_isFrightening : MethodName := ⟨RX0, "isFrightening", "(I)Z"⟩
abbrev cX0_noteBreakage : ByteArray := prog_2_method_18_code
def yX0_noteBreakage : MethodName := ⟨RX0, "noteBreakage", "(I)V"⟩
abbrev cX0_performShock : ByteArray := prog_2_method_19_code
def yX0_performShock : MethodName := ⟨RX0, "performShock", "(I)I"⟩
abbrev cX0_shakeCups : ByteArray := prog_2_method_20_code
def yX0_shakeCups : MethodName := ⟨RX0, "shakeCups", "()V"⟩
abbrev cX0_shakeLamps : ByteArray := prog_2_method_21_code
def yX0_shakeLamps : MethodName := ⟨RX0, "shakeLamps", "(I)V"⟩
abbrev cX0_askCats : ByteArray := prog_2_method_22_code
def yX0_askCats : MethodName := ⟨RX0, "askCats", "()I"⟩
abbrev cX0_performProgramme : ByteArray := prog_2_method_23_code
def yX0_performProgramme : MethodName := ⟨RX0, "performProgramme", "()I"⟩
abbrev cX0_calm : ByteArray := prog_2_method_24_code
def yX0_calm : MethodName := ⟨RX0, "calm", "()I"⟩
abbrev cX0_breakagesPropByProp : ByteArray := prog_2_method_25_code
def yX0_breakagesPropByProp : MethodName := ⟨RX0, "breakagesPropByProp", "(I)I"⟩
abbrev cX0_isDamageRight : ByteArray := prog_2_method_26_code
def yX0_isDamageRight : MethodName := ⟨RX0, "isDamageRight", "()Z"⟩
abbrev cX0_numberInOrder : ByteArray := prog_2_method_27_code
def yX0_numberInOrder : MethodName := ⟨RX0, "numberInOrder", "(II)I"⟩
abbrev cX0_countAhead : ByteArray := prog_2_method_28_code
def yX0_countAhead : MethodName := ⟨RX0, "countAhead", "(I)I"⟩
def RX1 : String := "QuakeRehearsal$History"
def TX1 : u_T := fun k => match k with
  | 0 => ("QuakeRehearsal$History", "kept", "[LQuakeRehearsal$Hall;", true)
  | 1 => ("QuakeRehearsal$History", "next", "I", false)
  | _ => ("QuakeRehearsal$History", "depth", "I", false)
def tyX1 : Nat → FieldType := fun k => match k with
  | 0 => .array (.object "QuakeRehearsal$Hall")
  | 1 => .int
  | _ => .int
abbrev wsX10 : List Cond := u_ws RX1 TX1 3
theorem nmX1 : ∀ a, a < 3 → ∀ b, b < 3 → a ≠ b → (TX1 a).2.1 ≠ (TX1 b).2.1 := by decide +kernel
theorem tyX1_ok : ∀ k, k < 3 → parseFieldDescriptor (TX1 k).2.2.1 = some (tyX1 k) := by decide +kernel
abbrev cX1_init : ByteArray := prog_3_method_1_code
def yX1_init : MethodName := ⟨RX1, "<init>", "()V"⟩
abbrev cX1_note : ByteArray := prog_3_method_2_code
def yX1_note : MethodName := ⟨RX1, "note", "(LQuakeRehearsal$Hall;)V"⟩
abbrev cX1_copyNoteTo : ByteArray := prog_3_method_3_code
def yX1_copyNoteTo : MethodName := ⟨RX1, "copyNoteTo", "(LQuakeRehearsal$Hall;)V"⟩
abbrev cX1_keepNote : ByteArray := prog_3_method_4_code
def yX1_keepNote : MethodName := ⟨RX1, "keepNote", "()V"⟩
abbrev cX1_stepBack : ByteArray := prog_3_method_5_code
def yX1_stepBack : MethodName := ⟨RX1, "stepBack", "(LQuakeRehearsal$Hall;)V"⟩
def RX2 : String := "QuakeRehearsal$Line"
def TX2 : u_T := fun k => match k with
  | 0 => ("QuakeRehearsal$Line", "signs", "[C", true)
  | _ => ("QuakeRehearsal$Line", "length", "I", false)
def tyX2 : Nat → FieldType := fun k => match k with
  | 0 => .array .char
  | _ => .int
abbrev wsX20 : List Cond := u_ws RX2 TX2 2
theorem nmX2 : ∀ a, a < 2 → ∀ b, b < 2 → a ≠ b → (TX2 a).2.1 ≠ (TX2 b).2.1 := by decide +kernel
theorem tyX2_ok : ∀ k, k < 2 → parseFieldDescriptor (TX2 k).2.2.1 = some (tyX2 k) := by decide +kernel
abbrev cX2_init : ByteArray := prog_4_method_1_code
def yX2_init : MethodName := ⟨RX2, "<init>", "()V"⟩
abbrev cX2_signAt : ByteArray := prog_4_method_2_code
def yX2_signAt : MethodName := ⟨RX2, "signAt", "(I)C"⟩
abbrev cX2_put : ByteArray := prog_4_method_3_code
def yX2_put : MethodName := ⟨RX2, "put", "(C)V"⟩
abbrev cX2_putNumber : ByteArray := prog_4_method_4_code
def yX2_putNumber : MethodName := ⟨RX2, "putNumber", "(I)V"⟩
abbrev cX2_writeProp : ByteArray := prog_4_method_5_code
def yX2_writeProp : MethodName := ⟨RX2, "writeProp", "(LQuakeRehearsal$Prop;)V"⟩
abbrev cX2_writeProgramme : ByteArray := prog_4_method_6_code
def yX2_writeProgramme : MethodName := ⟨RX2, "writeProgramme", "(LQuakeRehearsal$Hall;)V"⟩
def RX3 : String := "QuakeRehearsal$Prop"
def TX3 : u_T := fun k => match k with
  | 0 => ("QuakeRehearsal$Prop", "kind", "I", false)
  | 1 => ("QuakeRehearsal$Prop", "floor", "I", false)
  | 2 => ("QuakeRehearsal$Prop", "measure", "I", false)
  | 3 => ("QuakeRehearsal$Prop", "damage", "I", false)
  | 4 => ("QuakeRehearsal$Prop", "broken", "Z", false)
  | 5 => ("QuakeRehearsal$Prop", "cued", "I", false)
  | _ => ("QuakeRehearsal$Prop", "tally", "I", false)
def tyX3 : Nat → FieldType := fun k => match k with
  | 0 => .int
  | 1 => .int
  | 2 => .int
  | 3 => .int
  | 4 => .boolean
  | 5 => .int
  | _ => .int
abbrev wsX30 : List Cond := u_ws RX3 TX3 7
theorem nmX3 : ∀ a, a < 7 → ∀ b, b < 7 → a ≠ b → (TX3 a).2.1 ≠ (TX3 b).2.1 := by decide +kernel
theorem tyX3_ok : ∀ k, k < 7 → parseFieldDescriptor (TX3 k).2.2.1 = some (tyX3 k) := by decide +kernel
abbrev cX3_init : ByteArray := prog_5_method_1_code
def yX3_init : MethodName := ⟨RX3, "<init>", "()V"⟩
abbrev cX3_begin : ByteArray := prog_5_method_2_code
def yX3_begin : MethodName := ⟨RX3, "begin", "(III)V"⟩
abbrev cX3_copyFrom : ByteArray := prog_5_method_3_code
def yX3_copyFrom : MethodName := ⟨RX3, "copyFrom", "(LQuakeRehearsal$Prop;)V"⟩
abbrev cX3_shakeCup : ByteArray := prog_5_method_4_code
def yX3_shakeCup : MethodName := ⟨RX3, "shakeCup", "(I)Z"⟩
abbrev cX3_shakeLamp : ByteArray := prog_5_method_5_code
def yX3_shakeLamp : MethodName := ⟨RX3, "shakeLamp", "(II)Z"⟩
abbrev cX3_swingAfter : ByteArray := prog_5_method_6_code
def yX3_swingAfter : MethodName := ⟨RX3, "swingAfter", "(II)I"⟩
abbrev cX3_judge : ByteArray := prog_5_method_7_code
def yX3_judge : MethodName := ⟨RX3, "judge", "(IZ)I"⟩
abbrev cX3_wouldBreakBy : ByteArray := prog_5_method_8_code
def yX3_wouldBreakBy : MethodName := ⟨RX3, "wouldBreakBy", "(II)Z"⟩
abbrev cX3_isDamageRight : ByteArray := prog_5_method_9_code
def yX3_isDamageRight : MethodName := ⟨RX3, "isDamageRight", "()Z"⟩
abbrev cX3_orderTo : ByteArray := prog_5_method_10_code
def yX3_orderTo : MethodName := ⟨RX3, "orderTo", "(LQuakeRehearsal$Prop;)I"⟩
def RX4 : String := "QuakeRehearsal$Script"
def TX4 : u_T := fun k => match k with
  | 0 => ("QuakeRehearsal$Script", "signs", "[C", true)
  | 1 => ("QuakeRehearsal$Script", "length", "I", false)
  | 2 => ("QuakeRehearsal$Script", "words", "[I", true)
  | 3 => ("QuakeRehearsal$Script", "firsts", "[I", true)
  | 4 => ("QuakeRehearsal$Script", "seconds", "[I", true)
  | 5 => ("QuakeRehearsal$Script", "orderCount", "I", false)
  | _ => ("QuakeRehearsal$Script", "offset", "I", false)
def tyX4 : Nat → FieldType := fun k => match k with
  | 0 => .array .char
  | 1 => .int
  | 2 => .array .int
  | 3 => .array .int
  | 4 => .array .int
  | 5 => .int
  | _ => .int
abbrev wsX40 : List Cond := u_ws RX4 TX4 7
theorem nmX4 : ∀ a, a < 7 → ∀ b, b < 7 → a ≠ b → (TX4 a).2.1 ≠ (TX4 b).2.1 := by decide +kernel
theorem tyX4_ok : ∀ k, k < 7 → parseFieldDescriptor (TX4 k).2.2.1 = some (tyX4 k) := by decide +kernel
abbrev cX4_init : ByteArray := prog_6_method_1_code
def yX4_init : MethodName := ⟨RX4, "<init>", "()V"⟩
abbrev cX4_put : ByteArray := prog_6_method_2_code
def yX4_put : MethodName := ⟨RX4, "put", "(C)V"⟩
abbrev cX4_read : ByteArray := prog_6_method_3_code
def yX4_read : MethodName := ⟨RX4, "read", "()I"⟩
abbrev cX4_readOrder : ByteArray := prog_6_method_4_code
def yX4_readOrder : MethodName := ⟨RX4, "readOrder", "(I)Z"⟩
abbrev cX4_readWord : ByteArray := prog_6_method_5_code
def yX4_readWord : MethodName := ⟨RX4, "readWord", "()I"⟩
abbrev cX4_countAlike : ByteArray := prog_6_method_6_code
def yX4_countAlike : MethodName := ⟨RX4, "countAlike", "(Ljava/lang/String;)I"⟩
abbrev cX4_readNumber : ByteArray := prog_6_method_7_code
def yX4_readNumber : MethodName := ⟨RX4, "readNumber", "(I)I"⟩
abbrev cX4_readDigit : ByteArray := prog_6_method_8_code
def yX4_readDigit : MethodName := ⟨RX4, "readDigit", "()I"⟩
abbrev cX4_readSign : ByteArray := prog_6_method_9_code
def yX4_readSign : MethodName := ⟨RX4, "readSign", "(C)Z"⟩
abbrev cX4_isNext : ByteArray := prog_6_method_10_code
def yX4_isNext : MethodName := ⟨RX4, "isNext", "(IC)Z"⟩
abbrev cX4_wordAt : ByteArray := prog_6_method_11_code
def yX4_wordAt : MethodName := ⟨RX4, "wordAt", "(I)I"⟩
abbrev cX4_firstAt : ByteArray := prog_6_method_12_code
def yX4_firstAt : MethodName := ⟨RX4, "firstAt", "(I)I"⟩
abbrev cX4_secondAt : ByteArray := prog_6_method_13_code
def yX4_secondAt : MethodName := ⟨RX4, "secondAt", "(I)I"⟩
abbrev cX4_nameOf : ByteArray := prog_6_method_14_code
def yX4_nameOf : MethodName := ⟨RX4, "nameOf", "(I)Ljava/lang/String;"⟩
def RX5 : String := "QuakeRehearsal"
def TX5 : u_T := fun k => match k with
  | 0 => ("QuakeRehearsal", "hall", "LQuakeRehearsal$Hall;", true)
  | 1 => ("QuakeRehearsal", "thought", "LQuakeRehearsal$Hall;", true)
  | 2 => ("QuakeRehearsal", "snapshot", "LQuakeRehearsal$Hall;", true)
  | 3 => ("QuakeRehearsal", "history", "LQuakeRehearsal$History;", true)
  | 4 => ("QuakeRehearsal", "script", "LQuakeRehearsal$Script;", true)
  | 5 => ("QuakeRehearsal", "written", "LQuakeRehearsal$Line;", true)
  | 6 => ("QuakeRehearsal", "hasSnapshot", "Z", false)
  | 7 => ("QuakeRehearsal", "errorPlace", "I", false)
  | 8 => ("QuakeRehearsal", "reason", "I", false)
  | 9 => ("QuakeRehearsal", "detail", "I", false)
  | _ => ("QuakeRehearsal", "answer", "I", false)
def tyX5 : Nat → FieldType := fun k => match k with
  | 0 => .object "QuakeRehearsal$Hall"
  | 1 => .object "QuakeRehearsal$Hall"
  | 2 => .object "QuakeRehearsal$Hall"
  | 3 => .object "QuakeRehearsal$History"
  | 4 => .object "QuakeRehearsal$Script"
  | 5 => .object "QuakeRehearsal$Line"
  | 6 => .boolean
  | 7 => .int
  | 8 => .int
  | 9 => .int
  | _ => .int
abbrev wsX50 : List Cond := u_ws RX5 TX5 11
theorem nmX5 : ∀ a, a < 11 → ∀ b, b < 11 → a ≠ b → (TX5 a).2.1 ≠ (TX5 b).2.1 := by decide +kernel
theorem tyX5_ok : ∀ k, k < 11 → parseFieldDescriptor (TX5 k).2.2.1 = some (tyX5 k) := by decide +kernel
abbrev cX5_init : ByteArray := prog_1_method_1_code
def yX5_init : MethodName := ⟨RX5, "<init>", "()V"⟩
abbrev cX5_cup : ByteArray := prog_1_method_2_code
def yX5_cup : MethodName := ⟨RX5, "cup", "(II)I"⟩
abbrev cX5_lamp : ByteArray := prog_1_method_3_code
def yX5_lamp : MethodName := ⟨RX5, "lamp", "(II)I"⟩
abbrev cX5_cat : ByteArray := prog_1_method_4_code
def yX5_cat : MethodName := ⟨RX5, "cat", "(II)I"⟩
abbrev cX5_take : ByteArray := prog_1_method_5_code
def yX5_take : MethodName := ⟨RX5, "take", "(I)I"⟩
abbrev cX5_cue : ByteArray := prog_1_method_6_code
def yX5_cue : MethodName := ⟨RX5, "cue", "(II)I"⟩
abbrev cX5_set : ByteArray := prog_1_method_7_code
def yX5_set : MethodName := ⟨RX5, "set", "(I)I"⟩
abbrev cX5_shock : ByteArray := prog_1_method_8_code
def yX5_shock : MethodName := ⟨RX5, "shock", "()I"⟩
abbrev cX5_add : ByteArray := prog_1_method_9_code
def yX5_add : MethodName := ⟨RX5, "add", "(I)I"⟩
abbrev cX5_perform : ByteArray := prog_1_method_10_code
def yX5_perform : MethodName := ⟨RX5, "perform", "()I"⟩
abbrev cX5_quiet : ByteArray := prog_1_method_11_code
def yX5_quiet : MethodName := ⟨RX5, "quiet", "()I"⟩
abbrev cX5_propOf : ByteArray := prog_1_method_12_code
def yX5_propOf : MethodName := ⟨RX5, "propOf", "(II)I"⟩
abbrev cX5_programme : ByteArray := prog_1_method_13_code
def yX5_programme : MethodName := ⟨RX5, "programme", "(I)I"⟩
abbrev cX5_on : ByteArray := prog_1_method_14_code
def yX5_on : MethodName := ⟨RX5, "on", "(IIZ)I"⟩
abbrev cX5_wouldMark : ByteArray := prog_1_method_15_code
def yX5_wouldMark : MethodName := ⟨RX5, "wouldMark", "(I)I"⟩
abbrev cX5_wouldBreak : ByteArray := prog_1_method_16_code
def yX5_wouldBreak : MethodName := ⟨RX5, "wouldBreak", "(IZ)I"⟩
abbrev cX5_programmeBreaks : ByteArray := prog_1_method_17_code
def yX5_programmeBreaks : MethodName := ⟨RX5, "programmeBreaks", "()I"⟩
abbrev cX5_best : ByteArray := prog_1_method_18_code
def yX5_best : MethodName := ⟨RX5, "best", "()I"⟩
abbrev cX5_leastBreaking : ByteArray := prog_1_method_19_code
def yX5_leastBreaking : MethodName := ⟨RX5, "leastBreaking", "()I"⟩
abbrev cX5_shocksFor : ByteArray := prog_1_method_20_code
def yX5_shocksFor : MethodName := ⟨RX5, "shocksFor", "(I)I"⟩
abbrev cX5_isBroken : ByteArray := prog_1_method_21_code
def yX5_isBroken : MethodName := ⟨RX5, "isBroken", "(I)Z"⟩
abbrev cX5_cupAt : ByteArray := prog_1_method_22_code
def yX5_cupAt : MethodName := ⟨RX5, "cupAt", "(I)I"⟩
abbrev cX5_lampAt : ByteArray := prog_1_method_23_code
def yX5_lampAt : MethodName := ⟨RX5, "lampAt", "(I)I"⟩
abbrev cX5_catAt : ByteArray := prog_1_method_24_code
def yX5_catAt : MethodName := ⟨RX5, "catAt", "(I)I"⟩
abbrev cX5_onFloor : ByteArray := prog_1_method_25_code
def yX5_onFloor : MethodName := ⟨RX5, "onFloor", "(II)I"⟩
abbrev cX5_line : ByteArray := prog_1_method_26_code
def yX5_line : MethodName := ⟨RX5, "line", "(I)I"⟩
abbrev cX5_programmeLine : ByteArray := prog_1_method_27_code
def yX5_programmeLine : MethodName := ⟨RX5, "programmeLine", "()I"⟩
abbrev cX5_character : ByteArray := prog_1_method_28_code
def yX5_character : MethodName := ⟨RX5, "character", "(I)C"⟩
abbrev cX5_append : ByteArray := prog_1_method_29_code
def yX5_append : MethodName := ⟨RX5, "append", "(C)I"⟩
abbrev cX5_run : ByteArray := prog_1_method_30_code
def yX5_run : MethodName := ⟨RX5, "run", "()I"⟩
abbrev cX5_errorPosition : ByteArray := prog_1_method_31_code
def yX5_errorPosition : MethodName := ⟨RX5, "errorPosition", "()I"⟩
abbrev cX5_refusal : ByteArray := prog_1_method_32_code
def yX5_refusal : MethodName := ⟨RX5, "refusal", "(Z)I"⟩
abbrev cX5_account : ByteArray := prog_1_method_33_code
def yX5_account : MethodName := ⟨RX5, "account", "(I)I"⟩
abbrev cX5_isWell : ByteArray := prog_1_method_34_code
def yX5_isWell : MethodName := ⟨RX5, "isWell", "()Z"⟩
abbrev cX5_meanGrade : ByteArray := prog_1_method_35_code
def yX5_meanGrade : MethodName := ⟨RX5, "meanGrade", "()D"⟩
abbrev cX5_brokenShare : ByteArray := prog_1_method_36_code
def yX5_brokenShare : MethodName := ⟨RX5, "brokenShare", "()F"⟩
abbrev cX5_undo : ByteArray := prog_1_method_37_code
def yX5_undo : MethodName := ⟨RX5, "undo", "()I"⟩
abbrev cX5_save : ByteArray := prog_1_method_38_code
def yX5_save : MethodName := ⟨RX5, "save", "()I"⟩
abbrev cX5_restore : ByteArray := prog_1_method_39_code
def yX5_restore : MethodName := ⟨RX5, "restore", "()I"⟩
abbrev cX5_isFloor : ByteArray := prog_1_method_40_code
def yX5_isFloor : MethodName := ⟨RX5, "isFloor", "(I)Z"⟩
abbrev cX5_isStrength : ByteArray := prog_1_method_41_code
def yX5_isStrength : MethodName := ⟨RX5, "isStrength", "(I)Z"⟩
abbrev cX5_requireStrength : ByteArray := prog_1_method_42_code
def yX5_requireStrength : MethodName := ⟨RX5, "requireStrength", "(I)V"⟩
abbrev cX5_propNumbered : ByteArray := prog_1_method_43_code
def yX5_propNumbered : MethodName := ⟨RX5, "propNumbered", "(I)LQuakeRehearsal$Prop;"⟩
abbrev cX5_numberInOrder : ByteArray := prog_1_method_44_code
def yX5_numberInOrder : MethodName := ⟨RX5, "numberInOrder", "(II)I"⟩
abbrev cX5_placed : ByteArray := prog_1_method_45_code
def yX5_placed : MethodName := ⟨RX5, "placed", "(III)I"⟩
abbrev cX5_strengthTold : ByteArray := prog_1_method_46_code
def yX5_strengthTold : MethodName := ⟨RX5, "strengthTold", "(II)I"⟩
abbrev cX5_change : ByteArray := prog_1_method_47_code
def yX5_change : MethodName := ⟨RX5, "change", "(III)I"⟩
abbrev cX5_tryOrder : ByteArray := prog_1_method_48_code
def yX5_tryOrder : MethodName := ⟨RX5, "tryOrder", "(III)I"⟩
abbrev cX5_tryPlacing : ByteArray := prog_1_method_49_code
def yX5_tryPlacing : MethodName := ⟨RX5, "tryPlacing", "(III)I"⟩
abbrev cX5_tryTaking : ByteArray := prog_1_method_50_code
def yX5_tryTaking : MethodName := ⟨RX5, "tryTaking", "(I)I"⟩
abbrev cX5_tryCueing : ByteArray := prog_1_method_51_code
def yX5_tryCueing : MethodName := ⟨RX5, "tryCueing", "(II)I"⟩
abbrev cX5_trySetting : ByteArray := prog_1_method_52_code
def yX5_trySetting : MethodName := ⟨RX5, "trySetting", "(I)I"⟩
abbrev cX5_tryAdding : ByteArray := prog_1_method_53_code
def yX5_tryAdding : MethodName := ⟨RX5, "tryAdding", "(I)I"⟩
abbrev cX5_answered : ByteArray := prog_1_method_54_code
def yX5_answered : MethodName := ⟨RX5, "answered", "(I)I"⟩
abbrev cX5_refuse : ByteArray := prog_1_method_55_code
def yX5_refuse : MethodName := ⟨RX5, "refuse", "(II)I"⟩
abbrev cX5_marksInThought : ByteArray := prog_1_method_56_code
def yX5_marksInThought : MethodName := ⟨RX5, "marksInThought", "(I)I"⟩
abbrev cX5_breakagesInThought : ByteArray := prog_1_method_57_code
def yX5_breakagesInThought : MethodName := ⟨RX5, "breakagesInThought", "(I)I"⟩
abbrev cX5_isReachAlike : ByteArray := prog_1_method_58_code
def yX5_isReachAlike : MethodName := ⟨RX5, "isReachAlike", "()Z"⟩
abbrev cX5_areBreakagesAlike : ByteArray := prog_1_method_59_code
def yX5_areBreakagesAlike : MethodName := ⟨RX5, "areBreakagesAlike", "()Z"⟩
def RX6 : String := "QuakeRehearsalModel"
def TX6 : u_T := fun k => match k with
  | 0 => ("QuakeRehearsalModel", "s", "[I", true)
  | 1 => ("QuakeRehearsalModel", "before", "[I", true)
  | 2 => ("QuakeRehearsalModel", "aside", "[I", true)
  | 3 => ("QuakeRehearsalModel", "saved", "[I", true)
  | 4 => ("QuakeRehearsalModel", "isSaved", "Z", false)
  | 5 => ("QuakeRehearsalModel", "past", "[I", true)
  | 6 => ("QuakeRehearsalModel", "pastMany", "I", false)
  | 7 => ("QuakeRehearsalModel", "thrown", "I", false)
  | 8 => ("QuakeRehearsalModel", "reason", "I", false)
  | 9 => ("QuakeRehearsalModel", "detail", "I", false)
  | 10 => ("QuakeRehearsalModel", "isRefused", "Z", false)
  | 11 => ("QuakeRehearsalModel", "brokeMany", "I", false)
  | 12 => ("QuakeRehearsalModel", "line", "[C", true)
  | 13 => ("QuakeRehearsalModel", "lineMany", "I", false)
  | 14 => ("QuakeRehearsalModel", "text", "[C", true)
  | 15 => ("QuakeRehearsalModel", "length", "I", false)
  | 16 => ("QuakeRehearsalModel", "at", "I", false)
  | 17 => ("QuakeRehearsalModel", "isWrong", "Z", false)
  | 18 => ("QuakeRehearsalModel", "errorAt", "I", false)
  | 19 => ("QuakeRehearsalModel", "orders", "[I", true)
  | _ => ("QuakeRehearsalModel", "orderMany", "I", false)
def tyX6 : Nat → FieldType := fun k => match k with
  | 0 => .array .int
  | 1 => .array .int
  | 2 => .array .int
  | 3 => .array .int
  | 4 => .boolean
  | 5 => .array .int
  | 6 => .int
  | 7 => .int
  | 8 => .int
  | 9 => .int
  | 10 => .boolean
  | 11 => .int
  | 12 => .array .char
  | 13 => .int
  | 14 => .array .char
  | 15 => .int
  | 16 => .int
  | 17 => .boolean
  | 18 => .int
  | 19 => .array .int
  | _ => .int
abbrev wsX60 : List Cond := u_ws RX6 TX6 21
theorem nmX6 : ∀ a, a < 21 → ∀ b, b < 21 → a ≠ b → (TX6 a).2.1 ≠ (TX6 b).2.1 := by decide +kernel
theorem tyX6_ok : ∀ k, k < 21 → parseFieldDescriptor (TX6 k).2.2.1 = some (tyX6 k) := by decide +kernel
abbrev cX6_init : ByteArray := prog_8_method_1_code
def yX6_init : MethodName := ⟨RX6, "<init>", "()V"⟩
abbrev cX6_thrown : ByteArray := prog_8_method_2_code
def yX6_thrown : MethodName := ⟨RX6, "thrown", "()I"⟩
abbrev cX6_in : ByteArray := prog_8_method_3_code
def yX6_in : MethodName := ⟨RX6, "in", "(III)Z"⟩
abbrev cX6_keep : ByteArray := prog_8_method_4_code
def yX6_keep : MethodName := ⟨RX6, "keep", "()V"⟩
abbrev cX6_ends : ByteArray := prog_8_method_5_code
def yX6_ends : MethodName := ⟨RX6, "ends", "(I)I"⟩
abbrev cX6_fails : ByteArray := prog_8_method_6_code
def yX6_fails : MethodName := ⟨RX6, "fails", "(I)I"⟩
abbrev cX6_refuse : ByteArray := prog_8_method_7_code
def yX6_refuse : MethodName := ⟨RX6, "refuse", "(III)I"⟩
abbrev cX6_refusal : ByteArray := prog_8_method_8_code
def yX6_refusal : MethodName := ⟨RX6, "refusal", "(Z)I"⟩
abbrev cX6_isProp : ByteArray := prog_8_method_9_code
def yX6_isProp : MethodName := ⟨RX6, "isProp", "(I)Z"⟩
abbrev cX6_isFloor : ByteArray := prog_8_method_10_code
def yX6_isFloor : MethodName := ⟨RX6, "isFloor", "(I)Z"⟩
abbrev cX6_isStrength : ByteArray := prog_8_method_11_code
def yX6_isStrength : MethodName := ⟨RX6, "isStrength", "(I)Z"⟩
abbrev cX6_of : ByteArray := prog_8_method_12_code
def yX6_of : MethodName := ⟨RX6, "of", "(II)I"⟩
abbrev cX6_sets : ByteArray := prog_8_method_13_code
def yX6_sets : MethodName := ⟨RX6, "sets", "(III)V"⟩
abbrev cX6_there : ByteArray := prog_8_method_14_code
def yX6_there : MethodName := ⟨RX6, "there", "(II)I"⟩
abbrev cX6_kindMany : ByteArray := prog_8_method_15_code
def yX6_kindMany : MethodName := ⟨RX6, "kindMany", "(I)I"⟩
abbrev cX6_comes : ByteArray := prog_8_method_16_code
def yX6_comes : MethodName := ⟨RX6, "comes", "(III)I"⟩
abbrev cX6_cup : ByteArray := prog_8_method_17_code
def yX6_cup : MethodName := ⟨RX6, "cup", "(II)I"⟩
abbrev cX6_lamp : ByteArray := prog_8_method_18_code
def yX6_lamp : MethodName := ⟨RX6, "lamp", "(II)I"⟩
abbrev cX6_cat : ByteArray := prog_8_method_19_code
def yX6_cat : MethodName := ⟨RX6, "cat", "(II)I"⟩
abbrev cX6_doTake : ByteArray := prog_8_method_20_code
def yX6_doTake : MethodName := ⟨RX6, "doTake", "(I)I"⟩
abbrev cX6_take : ByteArray := prog_8_method_21_code
def yX6_take : MethodName := ⟨RX6, "take", "(I)I"⟩
abbrev cX6_doCue : ByteArray := prog_8_method_22_code
def yX6_doCue : MethodName := ⟨RX6, "doCue", "(II)I"⟩
abbrev cX6_cue : ByteArray := prog_8_method_23_code
def yX6_cue : MethodName := ⟨RX6, "cue", "(II)I"⟩
abbrev cX6_doSet : ByteArray := prog_8_method_24_code
def yX6_doSet : MethodName := ⟨RX6, "doSet", "(I)I"⟩
abbrev cX6_set : ByteArray := prog_8_method_25_code
def yX6_set : MethodName := ⟨RX6, "set", "(I)I"⟩
abbrev cX6_strengthOn : ByteArray := prog_8_method_26_code
def yX6_strengthOn : MethodName := ⟨RX6, "strengthOn", "(II)I"⟩
abbrev cX6_shakes : ByteArray := prog_8_method_27_code
def yX6_shakes : MethodName := ⟨RX6, "shakes", "(II)Z"⟩
abbrev cX6_swings : ByteArray := prog_8_method_28_code
def yX6_swings : MethodName := ⟨RX6, "swings", "(III)Z"⟩
abbrev cX6_marks : ByteArray := prog_8_method_29_code
def yX6_marks : MethodName := ⟨RX6, "marks", "(IIZ)I"⟩
abbrev cX6_shocks : ByteArray := prog_8_method_30_code
def yX6_shocks : MethodName := ⟨RX6, "shocks", "(I)I"⟩
abbrev cX6_shock : ByteArray := prog_8_method_31_code
def yX6_shock : MethodName := ⟨RX6, "shock", "()I"⟩
abbrev cX6_doAdd : ByteArray := prog_8_method_32_code
def yX6_doAdd : MethodName := ⟨RX6, "doAdd", "(I)I"⟩
abbrev cX6_add : ByteArray := prog_8_method_33_code
def yX6_add : MethodName := ⟨RX6, "add", "(I)I"⟩
abbrev cX6_doPerform : ByteArray := prog_8_method_34_code
def yX6_doPerform : MethodName := ⟨RX6, "doPerform", "()I"⟩
abbrev cX6_perform : ByteArray := prog_8_method_35_code
def yX6_perform : MethodName := ⟨RX6, "perform", "()I"⟩
abbrev cX6_doQuiet : ByteArray := prog_8_method_36_code
def yX6_doQuiet : MethodName := ⟨RX6, "doQuiet", "()I"⟩
abbrev cX6_quiet : ByteArray := prog_8_method_37_code
def yX6_quiet : MethodName := ⟨RX6, "quiet", "()I"⟩
abbrev cX6_propOf : ByteArray := prog_8_method_38_code
def yX6_propOf : MethodName := ⟨RX6, "propOf", "(II)I"⟩
abbrev cX6_programme : ByteArray := prog_8_method_39_code
def yX6_programme : MethodName := ⟨RX6, "programme", "(I)I"⟩
abbrev cX6_on : ByteArray := prog_8_method_40_code
def yX6_on : MethodName := ⟨RX6, "on", "(IIZ)I"⟩
abbrev cX6_thinks : ByteArray := prog_8_method_41_code
def yX6_thinks : MethodName := ⟨RX6, "thinks", "()V"⟩
abbrev cX6_forgets : ByteArray := prog_8_method_42_code
def yX6_forgets : MethodName := ⟨RX6, "forgets", "()V"⟩
abbrev cX6_would : ByteArray := prog_8_method_43_code
def yX6_would : MethodName := ⟨RX6, "would", "(IZ)I"⟩
abbrev cX6_wouldMark : ByteArray := prog_8_method_44_code
def yX6_wouldMark : MethodName := ⟨RX6, "wouldMark", "(I)I"⟩
abbrev cX6_wouldBreak : ByteArray := prog_8_method_45_code
def yX6_wouldBreak : MethodName := ⟨RX6, "wouldBreak", "(IZ)I"⟩
abbrev cX6_programmeBreaks : ByteArray := prog_8_method_46_code
def yX6_programmeBreaks : MethodName := ⟨RX6, "programmeBreaks", "()I"⟩
abbrev cX6_best : ByteArray := prog_8_method_47_code
def yX6_best : MethodName := ⟨RX6, "best", "()I"⟩
abbrev cX6_leastBreaking : ByteArray := prog_8_method_48_code
def yX6_leastBreaking : MethodName := ⟨RX6, "leastBreaking", "()I"⟩
abbrev cX6_shocksFor : ByteArray := prog_8_method_49_code
def yX6_shocksFor : MethodName := ⟨RX6, "shocksFor", "(I)I"⟩
abbrev cX6_isBroken : ByteArray := prog_8_method_50_code
def yX6_isBroken : MethodName := ⟨RX6, "isBroken", "(I)Z"⟩
abbrev cX6_ahead : ByteArray := prog_8_method_51_code
def yX6_ahead : MethodName := ⟨RX6, "ahead", "(III)I"⟩
abbrev cX6_placed : ByteArray := prog_8_method_52_code
def yX6_placed : MethodName := ⟨RX6, "placed", "(II)I"⟩
abbrev cX6_cupAt : ByteArray := prog_8_method_53_code
def yX6_cupAt : MethodName := ⟨RX6, "cupAt", "(I)I"⟩
abbrev cX6_lampAt : ByteArray := prog_8_method_54_code
def yX6_lampAt : MethodName := ⟨RX6, "lampAt", "(I)I"⟩
abbrev cX6_catAt : ByteArray := prog_8_method_55_code
def yX6_catAt : MethodName := ⟨RX6, "catAt", "(I)I"⟩
abbrev cX6_onFloor : ByteArray := prog_8_method_56_code
def yX6_onFloor : MethodName := ⟨RX6, "onFloor", "(II)I"⟩
abbrev cX6_says : ByteArray := prog_8_method_57_code
def yX6_says : MethodName := ⟨RX6, "says", "(C)V"⟩
abbrev cX6_saysNumber : ByteArray := prog_8_method_58_code
def yX6_saysNumber : MethodName := ⟨RX6, "saysNumber", "(I)V"⟩
abbrev cX6_saysValue : ByteArray := prog_8_method_59_code
def yX6_saysValue : MethodName := ⟨RX6, "saysValue", "(I)V"⟩
abbrev cX6_line : ByteArray := prog_8_method_60_code
def yX6_line : MethodName := ⟨RX6, "line", "(I)I"⟩
abbrev cX6_programmeLine : ByteArray := prog_8_method_61_code
def yX6_programmeLine : MethodName := ⟨RX6, "programmeLine", "()I"⟩
abbrev cX6_character : ByteArray := prog_8_method_62_code
def yX6_character : MethodName := ⟨RX6, "character", "(I)C"⟩
abbrev cX6_append : ByteArray := prog_8_method_63_code
def yX6_append : MethodName := ⟨RX6, "append", "(C)I"⟩
abbrev cX6_isHere : ByteArray := prog_8_method_64_code
def yX6_isHere : MethodName := ⟨RX6, "isHere", "(CC)Z"⟩
abbrev cX6_sign : ByteArray := prog_8_method_65_code
def yX6_sign : MethodName := ⟨RX6, "sign", "(CC)I"⟩
abbrev cX6_skip : ByteArray := prog_8_method_66_code
def yX6_skip : MethodName := ⟨RX6, "skip", "(Ljava/lang/String;)V"⟩
abbrev cX6_common : ByteArray := prog_8_method_67_code
def yX6_common : MethodName := ⟨RX6, "common", "(Ljava/lang/String;)I"⟩
abbrev cX6_word : ByteArray := prog_8_method_68_code
def yX6_word : MethodName := ⟨RX6, "word", "()I"⟩
abbrev cX6_digit : ByteArray := prog_8_method_69_code
def yX6_digit : MethodName := ⟨RX6, "digit", "()I"⟩
abbrev cX6_number : ByteArray := prog_8_method_70_code
def yX6_number : MethodName := ⟨RX6, "number", "()I"⟩
abbrev cX6_readOrder : ByteArray := prog_8_method_71_code
def yX6_readOrder : MethodName := ⟨RX6, "readOrder", "()V"⟩
abbrev cX6_does : ByteArray := prog_8_method_72_code
def yX6_does : MethodName := ⟨RX6, "does", "(I)V"⟩
abbrev cX6_run : ByteArray := prog_8_method_73_code
def yX6_run : MethodName := ⟨RX6, "run", "()I"⟩
abbrev cX6_errorPosition : ByteArray := prog_8_method_74_code
def yX6_errorPosition : MethodName := ⟨RX6, "errorPosition", "()I"⟩
abbrev cX6_brokenMany : ByteArray := prog_8_method_75_code
def yX6_brokenMany : MethodName := ⟨RX6, "brokenMany", "()I"⟩
abbrev cX6_account : ByteArray := prog_8_method_76_code
def yX6_account : MethodName := ⟨RX6, "account", "(I)I"⟩
abbrev cX6_isWell : ByteArray := prog_8_method_77_code
def yX6_isWell : MethodName := ⟨RX6, "isWell", "()Z"⟩
abbrev cX6_meanGrade : ByteArray := prog_8_method_78_code
def yX6_meanGrade : MethodName := ⟨RX6, "meanGrade", "()D"⟩
abbrev cX6_brokenShare : ByteArray := prog_8_method_79_code
def yX6_brokenShare : MethodName := ⟨RX6, "brokenShare", "()F"⟩
abbrev cX6_undo : ByteArray := prog_8_method_80_code
def yX6_undo : MethodName := ⟨RX6, "undo", "()I"⟩
abbrev cX6_save : ByteArray := prog_8_method_81_code
def yX6_save : MethodName := ⟨RX6, "save", "()I"⟩
abbrev cX6_restore : ByteArray := prog_8_method_82_code
def yX6_restore : MethodName := ⟨RX6, "restore", "()I"⟩
def RJx145de : String := "java/io/Serializable"
def TJx145de : u_T := fun k => match k with
  | _ => ("", "", "", false)
def tyJx145de : Nat → FieldType := fun k => match k with
  | _ => .int
theorem nmJx145de : ∀ a, a < 0 → ∀ b, b < 0 → a ≠ b → (TJx145de a).2.1 ≠ (TJx145de b).2.1 := by decide +kernel
theorem tyJx145de_ok : ∀ k, k < 0 → parseFieldDescriptor (TJx145de k).2.2.1 = some (tyJx145de k) := by decide +kernel
def RJ5 : String := "java/lang/AbstractStringBuilder"
def TJ5 : u_T := fun k => match k with
  | _ => ("", "", "", false)
def tyJ5 : Nat → FieldType := fun k => match k with
  | _ => .int
abbrev wsJ50 : List Cond := u_ws RJ5 TJ5 0
theorem nmJ5 : ∀ a, a < 0 → ∀ b, b < 0 → a ≠ b → (TJ5 a).2.1 ≠ (TJ5 b).2.1 := by decide +kernel
theorem tyJ5_ok : ∀ k, k < 0 → parseFieldDescriptor (TJ5 k).2.2.1 = some (tyJ5 k) := by decide +kernel
abbrev cJ5_init_d00df : ByteArray := prog_10_method_2_code
def yJ5_init_d00df : MethodName := ⟨RJ5, "<init>", "(I)V"⟩
abbrev cJ5_length_8abf5 : ByteArray := prog_10_method_6_code
def yJ5_length_8abf5 : MethodName := ⟨RJ5, "length", "()I"⟩
abbrev cJ5_ensureCapacityInternal_d00df : ByteArray := prog_10_method_9_code
def yJ5_ensureCapacityInternal_d00df : MethodName := ⟨RJ5, "ensureCapacityInternal", "(I)V"⟩
abbrev cJ5_newCapacity_0f7a4 : ByteArray := prog_10_method_10_code
def yJ5_newCapacity_0f7a4 : MethodName := ⟨RJ5, "newCapacity", "(I)I"⟩
abbrev cJ5_inflate_da8c8 : ByteArray := prog_10_method_11_code
def yJ5_inflate_da8c8 : MethodName := ⟨RJ5, "inflate", "()V"⟩
abbrev cJ5_append_cf1ce : ByteArray := prog_10_method_22_code
def yJ5_append_cf1ce : MethodName := ⟨RJ5, "append", "(Ljava/lang/String;)Ljava/lang/AbstractStringBuilder;"⟩
abbrev cJ5_appendNull_278bc : ByteArray := prog_10_method_26_code
def yJ5_appendNull_278bc : MethodName := ⟨RJ5, "appendNull", "()Ljava/lang/AbstractStringBuilder;"⟩
abbrev cJ5_append_c97b9 : ByteArray := prog_10_method_32_code
def yJ5_append_c97b9 : MethodName := ⟨RJ5, "append", "(I)Ljava/lang/AbstractStringBuilder;"⟩
abbrev cJ5_getValue_6d5f1 : ByteArray := prog_10_method_64_code
def yJ5_getValue_6d5f1 : MethodName := ⟨RJ5, "getValue", "()[B"⟩
abbrev cJ5_isLatin1_aae02 : ByteArray := prog_10_method_68_code
def yJ5_isLatin1_aae02 : MethodName := ⟨RJ5, "isLatin1", "()Z"⟩
abbrev cJ5_inflateIfNeededFor_a7421 : ByteArray := prog_10_method_71_code
def yJ5_inflateIfNeededFor_a7421 : MethodName := ⟨RJ5, "inflateIfNeededFor", "(Ljava/lang/String;)V"⟩
abbrev cJ5_putStringAt_47b60 : ByteArray := prog_10_method_73_code
def yJ5_putStringAt_47b60 : MethodName := ⟨RJ5, "putStringAt", "(ILjava/lang/String;)V"⟩
def RJx2cfe8 : String := "java/lang/Appendable"
def TJx2cfe8 : u_T := fun k => match k with
  | _ => ("", "", "", false)
def tyJx2cfe8 : Nat → FieldType := fun k => match k with
  | _ => .int
theorem nmJx2cfe8 : ∀ a, a < 0 → ∀ b, b < 0 → a ≠ b → (TJx2cfe8 a).2.1 ≠ (TJx2cfe8 b).2.1 := by decide +kernel
theorem tyJx2cfe8_ok : ∀ k, k < 0 → parseFieldDescriptor (TJx2cfe8 k).2.2.1 = some (tyJx2cfe8 k) := by decide +kernel
def RJx00060 : String := "java/lang/ArrayIndexOutOfBoundsException"
def TJx00060 : u_T := fun k => match k with
  | 0 => ("java/lang/Throwable", "backtrace", "Ljava/lang/Object;", false)
  | 1 => ("java/lang/Throwable", "detailMessage", "Ljava/lang/String;", false)
  | 2 => ("java/lang/Throwable", "cause", "Ljava/lang/Throwable;", false)
  | 3 => ("java/lang/Throwable", "stackTrace", "[Ljava/lang/StackTraceElement;", false)
  | 4 => ("java/lang/Throwable", "depth", "I", false)
  | _ => ("java/lang/Throwable", "suppressedExceptions", "Ljava/util/List;", false)
def tyJx00060 : Nat → FieldType := fun k => match k with
  | 0 => .object "java/lang/Object"
  | 1 => .object "java/lang/String"
  | 2 => .object "java/lang/Throwable"
  | 3 => .array (.object "java/lang/StackTraceElement")
  | 4 => .int
  | _ => .object "java/util/List"
abbrev wsJx000600 : List Cond := u_ws RJx00060 TJx00060 6
theorem nmJx00060 : ∀ a, a < 6 → ∀ b, b < 6 → a ≠ b → (TJx00060 a).2.1 ≠ (TJx00060 b).2.1 := by decide +kernel
theorem tyJx00060_ok : ∀ k, k < 6 → parseFieldDescriptor (TJx00060 k).2.2.1 = some (tyJx00060 k) := by decide +kernel
abbrev cJx00060_init_a7421 : ByteArray := prog_13_method_2_code
def yJx00060_init_a7421 : MethodName := ⟨RJx00060, "<init>", "(Ljava/lang/String;)V"⟩
def RJx9f9b0 : String := "java/lang/CharSequence"
def TJx9f9b0 : u_T := fun k => match k with
  | _ => ("", "", "", false)
def tyJx9f9b0 : Nat → FieldType := fun k => match k with
  | _ => .int
theorem nmJx9f9b0 : ∀ a, a < 0 → ∀ b, b < 0 → a ≠ b → (TJx9f9b0 a).2.1 ≠ (TJx9f9b0 b).2.1 := by decide +kernel
theorem tyJx9f9b0_ok : ∀ k, k < 0 → parseFieldDescriptor (TJx9f9b0 k).2.2.1 = some (tyJx9f9b0 k) := by decide +kernel
def RJ11 : String := "java/lang/Character"
def TJ11 : u_T := fun k => match k with
  | _ => ("", "", "", false)
def tyJ11 : Nat → FieldType := fun k => match k with
  | _ => .int
abbrev wsJ110 : List Cond := u_ws RJ11 TJ11 0
theorem nmJ11 : ∀ a, a < 0 → ∀ b, b < 0 → a ≠ b → (TJ11 a).2.1 ≠ (TJ11 b).2.1 := by decide +kernel
theorem tyJ11_ok : ∀ k, k < 0 → parseFieldDescriptor (TJ11 k).2.2.1 = some (tyJ11 k) := by decide +kernel
abbrev cJ11_isValidCodePoint_9a6ad : ByteArray := prog_15_method_11_code
def yJ11_isValidCodePoint_9a6ad : MethodName := ⟨RJ11, "isValidCodePoint", "(I)Z"⟩
abbrev cJ11_highSurrogate_5068e : ByteArray := prog_15_method_28_code
def yJ11_highSurrogate_5068e : MethodName := ⟨RJ11, "highSurrogate", "(I)C"⟩
abbrev cJ11_lowSurrogate_5068e : ByteArray := prog_15_method_29_code
def yJ11_lowSurrogate_5068e : MethodName := ⟨RJ11, "lowSurrogate", "(I)C"⟩
def RJx8e188 : String := "java/lang/Cloneable"
def TJx8e188 : u_T := fun k => match k with
  | _ => ("", "", "", false)
def tyJx8e188 : Nat → FieldType := fun k => match k with
  | _ => .int
theorem nmJx8e188 : ∀ a, a < 0 → ∀ b, b < 0 → a ≠ b → (TJx8e188 a).2.1 ≠ (TJx8e188 b).2.1 := by decide +kernel
theorem tyJx8e188_ok : ∀ k, k < 0 → parseFieldDescriptor (TJx8e188 k).2.2.1 = some (tyJx8e188 k) := by decide +kernel
def RJxb160c : String := "java/lang/Comparable"
def TJxb160c : u_T := fun k => match k with
  | _ => ("", "", "", false)
def tyJxb160c : Nat → FieldType := fun k => match k with
  | _ => .int
theorem nmJxb160c : ∀ a, a < 0 → ∀ b, b < 0 → a ≠ b → (TJxb160c a).2.1 ≠ (TJxb160c b).2.1 := by decide +kernel
theorem tyJxb160c_ok : ∀ k, k < 0 → parseFieldDescriptor (TJxb160c k).2.2.1 = some (tyJxb160c k) := by decide +kernel
def RJ6 : String := "java/lang/Integer"
def TJ6 : u_T := fun k => match k with
  | _ => ("", "", "", false)
def tyJ6 : Nat → FieldType := fun k => match k with
  | _ => .int
abbrev wsJ60 : List Cond := u_ws RJ6 TJ6 0
theorem nmJ6 : ∀ a, a < 0 → ∀ b, b < 0 → a ≠ b → (TJ6 a).2.1 ≠ (TJ6 b).2.1 := by decide +kernel
theorem tyJ6_ok : ∀ k, k < 0 → parseFieldDescriptor (TJ6 k).2.2.1 = some (tyJ6 k) := by decide +kernel
abbrev cJ6_getChars_ba4f3 : ByteArray := prog_22_method_12_code
def yJ6_getChars_ba4f3 : MethodName := ⟨RJ6, "getChars", "(II[B)I"⟩
abbrev cJ6_stringSize_0f7a4 : ByteArray := prog_22_method_13_code
def yJ6_stringSize_0f7a4 : MethodName := ⟨RJ6, "stringSize", "(I)I"⟩
abbrev cJ6_compare_7cf53 : ByteArray := prog_22_method_40_code
def yJ6_compare_7cf53 : MethodName := ⟨RJ6, "compare", "(II)I"⟩
def RJ9 : String := "java/lang/Math"
def TJ9 : u_T := fun k => match k with
  | _ => ("", "", "", false)
def tyJ9 : Nat → FieldType := fun k => match k with
  | _ => .int
abbrev wsJ90 : List Cond := u_ws RJ9 TJ9 0
theorem nmJ9 : ∀ a, a < 0 → ∀ b, b < 0 → a ≠ b → (TJ9 a).2.1 ≠ (TJ9 b).2.1 := by decide +kernel
theorem tyJ9_ok : ∀ k, k < 0 → parseFieldDescriptor (TJ9 k).2.2.1 = some (tyJ9 k) := by decide +kernel
abbrev cJ9_abs_0f7a4 : ByteArray := prog_23_method_59_code
def yJ9_abs_0f7a4 : MethodName := ⟨RJ9, "abs", "(I)I"⟩
abbrev cJ9_max_7cf53 : ByteArray := prog_23_method_65_code
def yJ9_max_7cf53 : MethodName := ⟨RJ9, "max", "(II)I"⟩
abbrev cJ9_min_7cf53 : ByteArray := prog_23_method_69_code
def yJ9_min_7cf53 : MethodName := ⟨RJ9, "min", "(II)I"⟩
def RJxd2413 : String := "java/lang/Number"
def TJxd2413 : u_T := fun k => match k with
  | _ => ("", "", "", false)
def tyJxd2413 : Nat → FieldType := fun k => match k with
  | _ => .int
theorem nmJxd2413 : ∀ a, a < 0 → ∀ b, b < 0 → a ≠ b → (TJxd2413 a).2.1 ≠ (TJxd2413 b).2.1 := by decide +kernel
theorem tyJxd2413_ok : ∀ k, k < 0 → parseFieldDescriptor (TJxd2413 k).2.2.1 = some (tyJxd2413 k) := by decide +kernel
def RJ0 : String := "java/lang/String"
def TJ0 : u_T := fun k => match k with
  | 0 => ("java/lang/String", "value", "[B", true)
  | 1 => ("java/lang/String", "coder", "B", true)
  | 2 => ("java/lang/String", "hash", "I", false)
  | _ => ("java/lang/String", "hashIsZero", "Z", false)
def tyJ0 : Nat → FieldType := fun k => match k with
  | 0 => .array .byte
  | 1 => .byte
  | 2 => .int
  | _ => .boolean
abbrev wsJ00 : List Cond := u_ws RJ0 TJ0 4
theorem nmJ0 : ∀ a, a < 4 → ∀ b, b < 4 → a ≠ b → (TJ0 a).2.1 ≠ (TJ0 b).2.1 := by decide +kernel
theorem tyJ0_ok : ∀ k, k < 4 → parseFieldDescriptor (TJ0 k).2.2.1 = some (tyJ0 k) := by decide +kernel
abbrev cJ0_init_81219 : ByteArray := prog_26_method_53_code
def yJ0_init_81219 : MethodName := ⟨RJ0, "<init>", "(Ljava/lang/StringBuilder;)V"⟩
abbrev cJ0_length_8abf5 : ByteArray := prog_26_method_54_code
def yJ0_length_8abf5 : MethodName := ⟨RJ0, "length", "()I"⟩
abbrev cJ0_charAt_5068e : ByteArray := prog_26_method_56_code
def yJ0_charAt_5068e : MethodName := ⟨RJ0, "charAt", "(I)C"⟩
abbrev cJ0_indexOf_7cf53 : ByteArray := prog_26_method_80_code
def yJ0_indexOf_7cf53 : MethodName := ⟨RJ0, "indexOf", "(II)I"⟩
abbrev cJ0_substring_37a41 : ByteArray := prog_26_method_92_code
def yJ0_substring_37a41 : MethodName := ⟨RJ0, "substring", "(II)Ljava/lang/String;"⟩
abbrev cJ0_getBytes_840e7 : ByteArray := prog_26_method_147_code
def yJ0_getBytes_840e7 : MethodName := ⟨RJ0, "getBytes", "([BIB)V"⟩
abbrev cJ0_init_db425 : ByteArray := prog_26_method_150_code
def yJ0_init_db425 : MethodName := ⟨RJ0, "<init>", "(Ljava/lang/AbstractStringBuilder;Ljava/lang/Void;)V"⟩
abbrev cJ0_init_031fb : ByteArray := prog_26_method_151_code
def yJ0_init_031fb : MethodName := ⟨RJ0, "<init>", "([BB)V"⟩
abbrev cJ0_coder_7d493 : ByteArray := prog_26_method_152_code
def yJ0_coder_7d493 : MethodName := ⟨RJ0, "coder", "()B"⟩
abbrev cJ0_isLatin1_aae02 : ByteArray := prog_26_method_154_code
def yJ0_isLatin1_aae02 : MethodName := ⟨RJ0, "isLatin1", "()Z"⟩
abbrev cJ0_checkIndex_df160 : ByteArray := prog_26_method_155_code
def yJ0_checkIndex_df160 : MethodName := ⟨RJ0, "checkIndex", "(II)V"⟩
abbrev cJ0_checkBoundsOffCount_cabcc : ByteArray := prog_26_method_157_code
def yJ0_checkBoundsOffCount_cabcc : MethodName := ⟨RJ0, "checkBoundsOffCount", "(III)I"⟩
abbrev cJ0_checkBoundsBeginEnd_23922 : ByteArray := prog_26_method_158_code
def yJ0_checkBoundsBeginEnd_23922 : MethodName := ⟨RJ0, "checkBoundsBeginEnd", "(III)V"⟩
def RJ4 : String := "java/lang/StringBuilder"
def TJ4 : u_T := fun k => match k with
  | 0 => ("java/lang/AbstractStringBuilder", "value", "[B", false)
  | 1 => ("java/lang/AbstractStringBuilder", "coder", "B", false)
  | 2 => ("java/lang/AbstractStringBuilder", "maybeLatin1", "Z", false)
  | _ => ("java/lang/AbstractStringBuilder", "count", "I", false)
def tyJ4 : Nat → FieldType := fun k => match k with
  | 0 => .array .byte
  | 1 => .byte
  | 2 => .boolean
  | _ => .int
abbrev wsJ40 : List Cond := u_ws RJ4 TJ4 4
theorem nmJ4 : ∀ a, a < 4 → ∀ b, b < 4 → a ≠ b → (TJ4 a).2.1 ≠ (TJ4 b).2.1 := by decide +kernel
theorem tyJ4_ok : ∀ k, k < 4 → parseFieldDescriptor (TJ4 k).2.2.1 = some (tyJ4 k) := by decide +kernel
abbrev cJ4_init_da8c8 : ByteArray := prog_27_method_1_code
def yJ4_init_da8c8 : MethodName := ⟨RJ4, "<init>", "()V"⟩
abbrev cJ4_append_15ec4 : ByteArray := prog_27_method_7_code
def yJ4_append_15ec4 : MethodName := ⟨RJ4, "append", "(Ljava/lang/String;)Ljava/lang/StringBuilder;"⟩
abbrev cJ4_append_bf812 : ByteArray := prog_27_method_15_code
def yJ4_append_bf812 : MethodName := ⟨RJ4, "append", "(I)Ljava/lang/StringBuilder;"⟩
abbrev cJ4_toString_0e30d : ByteArray := prog_27_method_42_code
def yJ4_toString_0e30d : MethodName := ⟨RJ4, "toString", "()Ljava/lang/String;"⟩
abbrev cJ4_length_8abf5 : ByteArray := prog_27_method_93_code
def yJ4_length_8abf5 : MethodName := ⟨RJ4, "length", "()I"⟩
def RJ1 : String := "java/lang/StringLatin1"
def TJ1 : u_T := fun k => match k with
  | _ => ("", "", "", false)
def tyJ1 : Nat → FieldType := fun k => match k with
  | _ => .int
abbrev wsJ10 : List Cond := u_ws RJ1 TJ1 0
theorem nmJ1 : ∀ a, a < 0 → ∀ b, b < 0 → a ≠ b → (TJ1 a).2.1 ≠ (TJ1 b).2.1 := by decide +kernel
theorem tyJ1_ok : ∀ k, k < 0 → parseFieldDescriptor (TJ1 k).2.2.1 = some (tyJ1 k) := by decide +kernel
abbrev cJ1_charAt_3b067 : ByteArray := prog_28_method_2_code
def yJ1_charAt_3b067 : MethodName := ⟨RJ1, "charAt", "([BI)C"⟩
abbrev cJ1_canEncode_9a6ad : ByteArray := prog_28_method_4_code
def yJ1_canEncode_9a6ad : MethodName := ⟨RJ1, "canEncode", "(I)Z"⟩
abbrev cJ1_indexOf_4cfef : ByteArray := prog_28_method_22_code
def yJ1_indexOf_4cfef : MethodName := ⟨RJ1, "indexOf", "([BIII)I"⟩
abbrev cJ1_indexOfChar_4cfef : ByteArray := prog_28_method_23_code
def yJ1_indexOfChar_4cfef : MethodName := ⟨RJ1, "indexOfChar", "([BIII)I"⟩
abbrev cJ1_newString_b4f7a : ByteArray := prog_28_method_47_code
def yJ1_newString_b4f7a : MethodName := ⟨RJ1, "newString", "([BII)Ljava/lang/String;"⟩
abbrev cJ1_inflate_0e8fd : ByteArray := prog_28_method_50_code
def yJ1_inflate_0e8fd : MethodName := ⟨RJ1, "inflate", "([BI[BII)V"⟩
def RJ2 : String := "java/lang/StringUTF16"
def TJ2 : u_T := fun k => match k with
  | _ => ("", "", "", false)
def tyJ2 : Nat → FieldType := fun k => match k with
  | _ => .int
abbrev wsJ20 : List Cond := u_ws RJ2 TJ2 0
theorem nmJ2 : ∀ a, a < 0 → ∀ b, b < 0 → a ≠ b → (TJ2 a).2.1 ≠ (TJ2 b).2.1 := by decide +kernel
theorem tyJ2_ok : ∀ k, k < 0 → parseFieldDescriptor (TJ2 k).2.2.1 = some (tyJ2 k) := by decide +kernel
abbrev cJ2_newBytesFor_77867 : ByteArray := prog_29_method_2_code
def yJ2_newBytesFor_77867 : MethodName := ⟨RJ2, "newBytesFor", "(I)[B"⟩
abbrev cJ2_newBytesLength_0f7a4 : ByteArray := prog_29_method_3_code
def yJ2_newBytesLength_0f7a4 : MethodName := ⟨RJ2, "newBytesLength", "(I)I"⟩
abbrev cJ2_putChar_b72d1 : ByteArray := prog_29_method_4_code
def yJ2_putChar_b72d1 : MethodName := ⟨RJ2, "putChar", "([BII)V"⟩
abbrev cJ2_getChar_3b067 : ByteArray := prog_29_method_5_code
def yJ2_getChar_3b067 : MethodName := ⟨RJ2, "getChar", "([BI)C"⟩
abbrev cJ2_length_9d52b : ByteArray := prog_29_method_6_code
def yJ2_length_9d52b : MethodName := ⟨RJ2, "length", "([B)I"⟩
abbrev cJ2_coderFromArrayLen_85cad : ByteArray := prog_29_method_15_code
def yJ2_coderFromArrayLen_85cad : MethodName := ⟨RJ2, "coderFromArrayLen", "([BI)B"⟩
abbrev cJ2_compress_39247 : ByteArray := prog_29_method_17_code
def yJ2_compress_39247 : MethodName := ⟨RJ2, "compress", "([BII)[B"⟩
abbrev cJ2_compress_5af95 : ByteArray := prog_29_method_22_code
def yJ2_compress_5af95 : MethodName := ⟨RJ2, "compress", "([BI[BII)I"⟩
abbrev cJ2_indexOf_4cfef : ByteArray := prog_29_method_40_code
def yJ2_indexOf_4cfef : MethodName := ⟨RJ2, "indexOf", "([BIII)I"⟩
abbrev cJ2_indexOfChar_4cfef : ByteArray := prog_29_method_47_code
def yJ2_indexOfChar_4cfef : MethodName := ⟨RJ2, "indexOfChar", "([BIII)I"⟩
abbrev cJ2_indexOfCharUnsafe_4cfef : ByteArray := prog_29_method_48_code
def yJ2_indexOfCharUnsafe_4cfef : MethodName := ⟨RJ2, "indexOfCharUnsafe", "([BIII)I"⟩
abbrev cJ2_indexOfSupplementary_4cfef : ByteArray := prog_29_method_49_code
def yJ2_indexOfSupplementary_4cfef : MethodName := ⟨RJ2, "indexOfSupplementary", "([BIII)I"⟩
abbrev cJ2_newString_b4f7a : ByteArray := prog_29_method_69_code
def yJ2_newString_b4f7a : MethodName := ⟨RJ2, "newString", "([BII)Ljava/lang/String;"⟩
abbrev cJ2_getChars_46870 : ByteArray := prog_29_method_77_code
def yJ2_getChars_46870 : MethodName := ⟨RJ2, "getChars", "(III[B)I"⟩
abbrev cJ2_putCharsAt_cd4e5 : ByteArray := prog_29_method_81_code
def yJ2_putCharsAt_cd4e5 : MethodName := ⟨RJ2, "putCharsAt", "([BICCCC)I"⟩
abbrev cJ2_charAt_3b067 : ByteArray := prog_29_method_83_code
def yJ2_charAt_3b067 : MethodName := ⟨RJ2, "charAt", "([BI)C"⟩
abbrev cJ2_inflate_0e8fd : ByteArray := prog_29_method_86_code
def yJ2_inflate_0e8fd : MethodName := ⟨RJ2, "inflate", "([BI[BII)V"⟩
abbrev cJ2_getChars_ba4f3 : ByteArray := prog_29_method_89_code
def yJ2_getChars_ba4f3 : MethodName := ⟨RJ2, "getChars", "(II[B)I"⟩
abbrev cJ2_checkIndex_2214a : ByteArray := prog_29_method_91_code
def yJ2_checkIndex_2214a : MethodName := ⟨RJ2, "checkIndex", "(I[B)V"⟩
abbrev cJ2_checkBoundsBeginEnd_d044e : ByteArray := prog_29_method_93_code
def yJ2_checkBoundsBeginEnd_d044e : MethodName := ⟨RJ2, "checkBoundsBeginEnd", "(II[B)V"⟩
abbrev cJ2_checkBoundsOffCount_d044e : ByteArray := prog_29_method_94_code
def yJ2_checkBoundsOffCount_d044e : MethodName := ⟨RJ2, "checkBoundsOffCount", "(II[B)V"⟩
def RJ10 : String := "java/lang/System"
def TJ10 : u_T := fun k => match k with
  | _ => ("", "", "", false)
def tyJ10 : Nat → FieldType := fun k => match k with
  | _ => .int
abbrev wsJ100 : List Cond := u_ws RJ10 TJ10 0
theorem nmJ10 : ∀ a, a < 0 → ∀ b, b < 0 → a ≠ b → (TJ10 a).2.1 ≠ (TJ10 b).2.1 := by decide +kernel
theorem tyJ10_ok : ∀ k, k < 0 → parseFieldDescriptor (TJ10 k).2.2.1 = some (tyJ10 k) := by decide +kernel
def RJxfd54e : String := "java/lang/constant/Constable"
def TJxfd54e : u_T := fun k => match k with
  | _ => ("", "", "", false)
def tyJxfd54e : Nat → FieldType := fun k => match k with
  | _ => .int
theorem nmJxfd54e : ∀ a, a < 0 → ∀ b, b < 0 → a ≠ b → (TJxfd54e a).2.1 ≠ (TJxfd54e b).2.1 := by decide +kernel
theorem tyJxfd54e_ok : ∀ k, k < 0 → parseFieldDescriptor (TJxfd54e k).2.2.1 = some (tyJxfd54e k) := by decide +kernel
def RJx3cf43 : String := "java/lang/constant/ConstantDesc"
def TJx3cf43 : u_T := fun k => match k with
  | _ => ("", "", "", false)
def tyJx3cf43 : Nat → FieldType := fun k => match k with
  | _ => .int
theorem nmJx3cf43 : ∀ a, a < 0 → ∀ b, b < 0 → a ≠ b → (TJx3cf43 a).2.1 ≠ (TJx3cf43 b).2.1 := by decide +kernel
theorem tyJx3cf43_ok : ∀ k, k < 0 → parseFieldDescriptor (TJx3cf43 k).2.2.1 = some (tyJx3cf43 k) := by decide +kernel
def RJ7 : String := "java/util/Arrays"
def TJ7 : u_T := fun k => match k with
  | _ => ("", "", "", false)
def tyJ7 : Nat → FieldType := fun k => match k with
  | _ => .int
abbrev wsJ70 : List Cond := u_ws RJ7 TJ7 0
theorem nmJ7 : ∀ a, a < 0 → ∀ b, b < 0 → a ≠ b → (TJ7 a).2.1 ≠ (TJ7 b).2.1 := by decide +kernel
theorem tyJ7_ok : ∀ k, k < 0 → parseFieldDescriptor (TJ7 k).2.2.1 = some (tyJ7 k) := by decide +kernel
abbrev cJ7_copyOf_9075b : ByteArray := prog_35_method_121_code
def yJ7_copyOf_9075b : MethodName := ⟨RJ7, "copyOf", "([BI)[B"⟩
abbrev cJ7_checkLength_df160 : ByteArray := prog_35_method_131_code
def yJ7_checkLength_df160 : MethodName := ⟨RJ7, "checkLength", "(II)V"⟩
abbrev cJ7_copyOfRange_39247 : ByteArray := prog_35_method_132_code
def yJ7_copyOfRange_39247 : MethodName := ⟨RJ7, "copyOfRange", "([BII)[B"⟩
abbrev cJ7_copyOfRangeByte_39247 : ByteArray := prog_35_method_133_code
def yJ7_copyOfRangeByte_39247 : MethodName := ⟨RJ7, "copyOfRangeByte", "([BII)[B"⟩
def RJ8 : String := "jdk/internal/util/ArraysSupport"
def TJ8 : u_T := fun k => match k with
  | _ => ("", "", "", false)
def tyJ8 : Nat → FieldType := fun k => match k with
  | _ => .int
abbrev wsJ80 : List Cond := u_ws RJ8 TJ8 0
theorem nmJ8 : ∀ a, a < 0 → ∀ b, b < 0 → a ≠ b → (TJ8 a).2.1 ≠ (TJ8 b).2.1 := by decide +kernel
theorem tyJ8_ok : ∀ k, k < 0 → parseFieldDescriptor (TJ8 k).2.2.1 = some (tyJ8 k) := by decide +kernel
abbrev cJ8_newLength_cabcc : ByteArray := prog_37_method_27_code
def yJ8_newLength_cabcc : MethodName := ⟨RJ8, "newLength", "(III)I"⟩
abbrev cJ8_hugeLength_7cf53 : ByteArray := prog_37_method_28_code
def yJ8_hugeLength_7cf53 : MethodName := ⟨RJ8, "hugeLength", "(II)I"⟩
def RJ3 : String := "jdk/internal/util/Preconditions"
def TJ3 : u_T := fun k => match k with
  | _ => ("", "", "", false)
def tyJ3 : Nat → FieldType := fun k => match k with
  | _ => .int
abbrev wsJ30 : List Cond := u_ws RJ3 TJ3 0
theorem nmJ3 : ∀ a, a < 0 → ∀ b, b < 0 → a ≠ b → (TJ3 a).2.1 ≠ (TJ3 b).2.1 := by decide +kernel
theorem tyJ3_ok : ∀ k, k < 0 → parseFieldDescriptor (TJ3 k).2.2.1 = some (tyJ3 k) := by decide +kernel
abbrev cJ3_checkIndex_8e157 : ByteArray := prog_38_method_11_code
def yJ3_checkIndex_8e157 : MethodName := ⟨RJ3, "checkIndex", "(IILjava/util/function/BiFunction;)I"⟩
abbrev cJ3_checkFromToIndex_8c36e : ByteArray := prog_38_method_12_code
def yJ3_checkFromToIndex_8c36e : MethodName := ⟨RJ3, "checkFromToIndex", "(IIILjava/util/function/BiFunction;)I"⟩
abbrev cJ3_checkFromIndexSize_8c36e : ByteArray := prog_38_method_13_code
def yJ3_checkFromIndexSize_8c36e : MethodName := ⟨RJ3, "checkFromIndexSize", "(IIILjava/util/function/BiFunction;)I"⟩
def RL : String := "QuakeRehearsalLaw"
abbrev cL_cup : ByteArray := method_3_code
def yL_cup : MethodName := ⟨RL, "cup", "(LQuakeRehearsal;II[J)I"⟩
abbrev cL_lamp : ByteArray := method_4_code
def yL_lamp : MethodName := ⟨RL, "lamp", "(LQuakeRehearsal;II[J)I"⟩
abbrev cL_cat : ByteArray := method_5_code
def yL_cat : MethodName := ⟨RL, "cat", "(LQuakeRehearsal;II[J)I"⟩
abbrev cL_take : ByteArray := method_6_code
def yL_take : MethodName := ⟨RL, "take", "(LQuakeRehearsal;I[J)I"⟩
abbrev cL_cue : ByteArray := method_7_code
def yL_cue : MethodName := ⟨RL, "cue", "(LQuakeRehearsal;II[J)I"⟩
abbrev cL_set : ByteArray := method_8_code
def yL_set : MethodName := ⟨RL, "set", "(LQuakeRehearsal;I[J)I"⟩
abbrev cL_add : ByteArray := method_9_code
def yL_add : MethodName := ⟨RL, "add", "(LQuakeRehearsal;I[J)I"⟩
abbrev cL_perform : ByteArray := method_10_code
def yL_perform : MethodName := ⟨RL, "perform", "(LQuakeRehearsal;[J)I"⟩
abbrev cL_propOf : ByteArray := method_11_code
def yL_propOf : MethodName := ⟨RL, "propOf", "(LQuakeRehearsal;II[J)I"⟩
abbrev cL_programme : ByteArray := method_12_code
def yL_programme : MethodName := ⟨RL, "programme", "(LQuakeRehearsal;I[J)I"⟩
abbrev cL_on : ByteArray := method_13_code
def yL_on : MethodName := ⟨RL, "on", "(LQuakeRehearsal;IIZ[J)I"⟩
abbrev cL_wouldMark : ByteArray := method_14_code
def yL_wouldMark : MethodName := ⟨RL, "wouldMark", "(LQuakeRehearsal;I[J)I"⟩
abbrev cL_wouldBreak : ByteArray := method_15_code
def yL_wouldBreak : MethodName := ⟨RL, "wouldBreak", "(LQuakeRehearsal;IZ[J)I"⟩
abbrev cL_leastBreaking : ByteArray := method_16_code
def yL_leastBreaking : MethodName := ⟨RL, "leastBreaking", "(LQuakeRehearsal;[J)I"⟩
abbrev cL_shocksFor : ByteArray := method_17_code
def yL_shocksFor : MethodName := ⟨RL, "shocksFor", "(LQuakeRehearsal;I[J)I"⟩
abbrev cL_isBroken : ByteArray := method_18_code
def yL_isBroken : MethodName := ⟨RL, "isBroken", "(LQuakeRehearsal;I[J)I"⟩
abbrev cL_cupAt : ByteArray := method_19_code
def yL_cupAt : MethodName := ⟨RL, "cupAt", "(LQuakeRehearsal;I[J)I"⟩
abbrev cL_lampAt : ByteArray := method_20_code
def yL_lampAt : MethodName := ⟨RL, "lampAt", "(LQuakeRehearsal;I[J)I"⟩
abbrev cL_catAt : ByteArray := method_21_code
def yL_catAt : MethodName := ⟨RL, "catAt", "(LQuakeRehearsal;I[J)I"⟩
abbrev cL_onFloor : ByteArray := method_22_code
def yL_onFloor : MethodName := ⟨RL, "onFloor", "(LQuakeRehearsal;II[J)I"⟩
abbrev cL_line : ByteArray := method_23_code
def yL_line : MethodName := ⟨RL, "line", "(LQuakeRehearsal;I[J)I"⟩
abbrev cL_character : ByteArray := method_24_code
def yL_character : MethodName := ⟨RL, "character", "(LQuakeRehearsal;I[J)I"⟩
abbrev cL_append : ByteArray := method_25_code
def yL_append : MethodName := ⟨RL, "append", "(LQuakeRehearsal;C[J)I"⟩
abbrev cL_run : ByteArray := method_26_code
def yL_run : MethodName := ⟨RL, "run", "(LQuakeRehearsal;[J)I"⟩
abbrev cL_refusal : ByteArray := method_27_code
def yL_refusal : MethodName := ⟨RL, "refusal", "(LQuakeRehearsal;Z[J)I"⟩
abbrev cL_account : ByteArray := method_28_code
def yL_account : MethodName := ⟨RL, "account", "(LQuakeRehearsal;I[J)I"⟩
abbrev cL_meanGrade : ByteArray := method_29_code
def yL_meanGrade : MethodName := ⟨RL, "meanGrade", "(LQuakeRehearsal;[D)I"⟩
abbrev cL_brokenShare : ByteArray := method_30_code
def yL_brokenShare : MethodName := ⟨RL, "brokenShare", "(LQuakeRehearsal;[D)I"⟩
abbrev cL_undo : ByteArray := method_31_code
def yL_undo : MethodName := ⟨RL, "undo", "(LQuakeRehearsal;[J)I"⟩
abbrev cL_restore : ByteArray := method_32_code
def yL_restore : MethodName := ⟨RL, "restore", "(LQuakeRehearsal;[J)I"⟩
abbrev cL_law : ByteArray := code
def yL_law : MethodName := ⟨RL, "law", "([I)Z"⟩
abbrev vwCl : List vw_C := [(RJ0, TJ0, 4), (RJ4, TJ4, 4), (RJx00060, TJx00060, 6), (RX0, TX0, 13), (RX1, TX1, 3), (RX2, TX2, 2), (RX3, TX3, 7), (RX4, TX4, 7), (RX5, TX5, 11), (RX6, TX6, 21)]
end
section
/-! ===== BEGIN words of one list among another's, by their places ===== -/
theorem goodIn_r {big : List Cond} (ws : List Cond) (ps : List Nat) (hp : ws = ps.filterMap (fun i => big[i]?)) (h : ws.all goodWord = true) : GoodIn big ws := by
  intro w hw
  have h1 := List.all_eq_true.mp h w hw
  rw [hp] at hw
  obtain ⟨i, -, hi⟩ := List.mem_filterMap.mp hw
  have hm : w ∈ big := by first | exact List.mem_of_getElem? hi | exact List.getElem?_mem hi
  exact ⟨hm, good_of_word h1⟩
theorem goodIn_app {big a b : List Cond} (ha : GoodIn big a) (hb : GoodIn big b) : GoodIn big (a ++ b) := fun w h => (List.mem_append.mp h).elim (ha w) (hb w)
theorem goodIn_ca {big a b : List Cond} {c : Cond} (ha : GoodIn big (c :: a)) (hb : GoodIn big b) : GoodIn big (c :: (a ++ b)) := fun w h => (List.mem_cons.mp h).elim (fun e => ha w (List.mem_cons.mpr (Or.inl e))) (fun h => (List.mem_append.mp h).elim (fun h => ha w (List.mem_cons.mpr (Or.inr h))) (hb w))
theorem goodIn_sub {big ws : List Cond} (hm : ∀ w ∈ ws, w ∈ big) (h : ws.all goodWord = true) : GoodIn big ws := fun w hw => ⟨hm w hw, good_of_word (List.all_eq_true.mp h w hw)⟩
/-! ===== END ===== -/

/-! ===== BEGIN exceptions that leave a method, and their catching by the caller (launches without stack traces) ===== -/
section VXA
/-! The laws vx_back, vx_callV, vx_callS, vx_callSW, vx_throw0, vx_throwS follow proofs of the library, with one case more: JvmDerived/Free/Laws.lean (Back.of_free), Shelf42/LK1.lean (callV, callS), Shelf/KitTraced.lean (throwNew0V, throwNewS). -/
/-- where a method has thrown q: the class by its name, the cell, what was written, the world -/
def vx_T (XC : String → State → State → Prop) (st : State) (q : Addr) (t : State) (mc ms : Nat) (free : Addr → Prop) : Prop :=
  ∃ (E : String) (ce : Cell) (L : List Loc), XC E st t ∧ t.heap[q]? = some ce ∧ ce.vm = .none ∧ st.vm.findClass E = some ce.cls ∧ st.WarmedH t.vm ∧ st.sameButNew ({ t with vm := st.vm } : State) L mc ms ∧ ∀ z ∈ L, free z.base
def vx_Q (Qc : Array Value → State → Outcome → State → Prop) (XC : String → State → State → Prop) (mc ms : Nat) (free : Addr → Prop) : Array Value → State → Outcome → State → Prop := fun a st o t =>
  (Qc a st o t ∧ ∃ L, FrameEnd st o t L mc ms ∧ ∀ q ∈ L, free q.base) ∨ ∃ q, o = .threw q ∧ vx_T XC st q t mc ms free
/-- a callee that returns or throws -/
def vx_Met (l : Launch) (y : MethodName) (ws : List Cond) (rm : Room) (Pc : Array Value → State → Prop) (Qc : Array Value → State → Outcome → State → Prop) (XC : String → State → State → Prop) (mc ms : Nat) (free : Addr → Prop) : Prop :=
  MetFree l y (headSpec ws rm) Pc (fun _ _ _ _ _ => True) (vx_Q Qc XC mc ms free)
def vx_Post (XC : String → State → State → Prop) (mc ms : Nat) (free : Addr → Prop) : Pt → Array Value → Addr → Pt → Prop := fun A a q B =>
  ∃ (g : JFrame) (mk : MethodId) (t : State) (L : List Loc) (E : String) (ce : Cell), B.U.heap = t.heap ∧ B.U.vm = t.vm ∧ XC E (A.U.calling g mk a) t ∧ t.heap[q]? = some ce ∧ ce.vm = .none ∧ A.U.vm.findClass E = some ce.cls ∧ B.locs = A.locs ++ L ∧ (∀ z ∈ L, free z.base) ∧ B.cells = A.cells + mc ∧ B.slots = A.slots + ms
def vx_Back (l : Launch) (R : Room) (p : Program) (e : Env) (below : List Frame) (s : State) (sargs : Array Value) (y : MethodName) (len W9 : Nat)
    (Pre : Pt → Array Value → Prop) (Post : Pt → Array Value → Option Value → Pt → Prop) (PostX : Pt → Array Value → Addr → Pt → Prop) : Prop :=
  ∀ (m : MethodId) (meth : Method) (c : Code) (A : Pt) (g : JFrame) (ig : Instr) (mk : MethodId) (a : Array Value),
    Stand p l e R s m sargs below meth c A.U A.locs A.cells A.slots → g.method = m → g.locals.size = c.maxLocals → decode c.code g.pc = .ok (ig, len) →
    2 * g.monitorRoom + (g.stack.map fun v => v.category).sum ≤ W9 → A.U.methodNamed? y = some mk → Pre A a →
    (∃ (v : Option Value) (B : Pt), Stand p l e R s m sargs below meth c B.U B.locs B.cells B.slots ∧ Post A a v B ∧
      Steps p.tables e below (doInvoke e (A.U.setTop g) [] mk a).1 (B.U.setTop { g with pc := g.pc + len, stack := v.toList ++ g.stack })) ∨
    (∃ (q : Addr) (B : Pt), Stand p l e R s m sargs below meth c B.U B.locs B.cells B.slots ∧ PostX A a q B ∧
      Steps p.tables e below (doInvoke e (A.U.setTop g) [] mk a).1 ((B.U.setTop g).pushFrame (.throwing q)))
section Payer
variable {l : Launch} {R : Room} {p : Program} {e : Env} {below : List Frame} {s : State} {sargs : Array Value} {y : MethodName} {len W9 : Nat}
theorem vx_back {ws : List Cond} {rm : Room} {Pc : Array Value → State → Prop} {Qc : Array Value → State → Outcome → State → Prop} {XC : String → State → State → Prop} {mc ms : Nat} {free : Addr → Prop} {bytes : ByteArray} {maxL : Nat} {ret : Option FieldType}
    (hM : vx_Met l y ws rm Pc Qc XC mc ms free) (hblind : FrameBlind Pc) (hrc : rm.cells = mc) (hrs : rm.slots = ms)
    (hframes : rm.frames + 1 ≤ R.frames) (hlocals : W9 + (maxL + 11) + rm.locals ≤ R.locals)
    (hws : ∀ w ∈ ws, ∀ a' U, s.WarmedH U.vm → w.before a' U = true) (hcode : Cond.code y bytes maxL ret ∈ ws) (hinit : ∀ a' U, s.WarmedH U.vm → (Cond.initialized y.cls).before a' U = true) :
    vx_Back l R p e below s sargs y len W9 (PreOf R mc ms Pc) (PostOf Qc mc ms free) (vx_Post XC mc ms free) := by
  intro m meth c A g ig mk a X hg hsize hdg hW hn hp
  have h1 : (headSpec ws rm).pre.before a A.U = true := atoms_intro fun w hw => hws w hw _ _ X.warmed
  have h2 : (Cond.code y bytes maxL ret).before a A.U = true := hws _ hcode _ _ X.warmed
  have h3 : (Cond.initialized y.cls).before a A.U = true := hinit _ _ X.warmed
  have h4 : A.cells + (headSpec ws rm).room.cells ≤ R.cells := by rw [show (headSpec ws rm).room.cells = mc from hrc]; exact hp.1
  have h5 : A.slots + (headSpec ws rm).room.slots ≤ R.slots := by rw [show (headSpec ws rm).room.slots = ms from hrs]; exact hp.2.1
  have hPc : Pc a (A.U.calling g mk a) := hblind _ _ _ _ hp.2.2
  obtain ⟨U, Ls, c0, s0⟩ := A
  dsimp only [Pt.U, Pt.locs, Pt.cells, Pt.slots] at h1 h2 h3 h4 h5 X hn hPc ⊢
  obtain ⟨methY, cY, hmY, hcY, -, hlY, -, -, -, -⟩ := Cond.code_spec hn h2
  obtain ⟨kY, hkY, -⟩ := className_of_methodNamed hn
  have hinitY : kY.init = .initialized := Cond.initialized_spec (findClass_of_methodNamed hn) hkY h3
  have h : At U g.method c below := by rw [hg]; exact X.here
  have hlocals9 : W9 + (maxL + 11) + (headSpec ws rm).room.locals ≤ R.locals := hlocals
  have happ : (headSpec ws rm).appliesLoose y e.platform (U.calling g mk a) = true :=
    Spec.appliesLoose_calling (g := g) h hdg hn hkY hinitY
      (X.room_calling (g := g) (R' := (headSpec ws rm).room) hsize hmY hcY hframes (by rw [hlY]; omega) h4 h5) h1
  obtain ⟨mid, hmid⟩ := h.above
  have hfr : (U.setTop g).frames = (.java g :: mid) ++ below := by rw [State.frames_setTop' g h.top, hmid]; rfl
  obtain ⟨o, s₂, hsteps, -, hend, hq⟩ := Steps.callFree hM p X.admits X.cas X.clock (acts := []) hfr happ hPc trivial
  have hq' : vx_Q Qc XC mc ms free a (U.calling g mk a) o s₂ := hq
  rw [State.frames_setTop' g h.top] at hend
  obtain ⟨g₀, hg0⟩ := Option.isSome_iff_exists.mp h.top
  obtain ⟨r, hr⟩ := State.topJava?_eq_some.mp hg0
  have hr' : (({ U with heap := s₂.heap, slotsUsed := s₂.slotsUsed } : State).setVm s₂.vm).frames = .java g₀ :: r := hr
  rcases hq' with ⟨hqc, L, hfe, hL⟩ | ⟨q, rfl, E, ce, L, hx, hce, hcv, hcl, hW₂, hsm, hL⟩
  · obtain ⟨⟨v, rfl⟩, hW₂, e2, q2, q3, q4, q5, q6⟩ := id hfe
    have e3 : s₂ = ({ (U.calling g mk a).setFrames s₂.frames with heap := s₂.heap, slotsUsed := s₂.slotsUsed } : State).setVm s₂.vm := by
      have : s₂ = ({ s₂ with vm := (U.calling g mk a).vm } : State).setVm s₂.vm := rfl
      rw [e2] at this
      exact this
    obtain ⟨c₂, i₂, len₂, hc₂, hd₂, hf₂⟩ := hend
    have hW' : U.WarmedH s₂.vm := hW₂
    have hcc : c₂ = c := by
      have h1 : s₂.code? g.method = U.code? g.method := by
        rw [State.code?_eq, State.code?_eq, hW'.alike.method?]
      exact Option.some.inj (hc₂.symm.trans (h1.trans h.code))
    subst hcc
    have hlen : len₂ = len := by rw [hdg] at hd₂; cases hd₂; rfl
    subst hlen
    have hs₂ : s₂ = (({ U with heap := s₂.heap, slotsUsed := s₂.slotsUsed } : State).setVm s₂.vm).setTop { g with pc := g.pc + len₂, stack := v.toList ++ g.stack } := by
      refine e3.trans ?_
      rw [hf₂, State.calling_eq h.top, State.setFrames_setFrames, State.setTop_of_frames _ hr', hr]
      rfl
    have hsame : U.sameButNew ({ U with heap := s₂.heap, slotsUsed := s₂.slotsUsed } : State) L mc ms := by
      refine ⟨?_, q2, q3, q4, q5, q6⟩
      obtain ⟨t, ht, -⟩ := State.frames_cons hr
      show ({ U with heap := s₂.heap, slotsUsed := s₂.slotsUsed } : State) = { U.setFrames U.frames with heap := s₂.heap, slotsUsed := s₂.slotsUsed }
      rw [State.setFrames_self ht]
    subst hg
    refine Or.inl ⟨v, ⟨(({ U with heap := s₂.heap, slotsUsed := s₂.slotsUsed } : State).setVm s₂.vm), Ls ++ L, c0 + mc, s0 + ms⟩,
      ⟨X.admits, X.cas, X.clock, X.frames, X.room, X.hears, X.method, X.code, (X.here.setHeapUsed s₂.heap s₂.slotsUsed).setVm hW'.alike, X.tail, State.WarmedH.trans X.warmed hW', X.limits, X.bytes, X.same.trans (hsame.setVm s.vm)⟩,
      ⟨g, mk, s₂, L, rfl, rfl, hqc, rfl, hL, rfl, rfl⟩, ?_⟩
    show Steps p.tables e below _ ((({ U with heap := s₂.heap, slotsUsed := s₂.slotsUsed } : State).setVm s₂.vm).setTop { g with pc := g.pc + len₂, stack := v.toList ++ g.stack })
    rw [← hs₂]
    exact hsteps
  · obtain ⟨e2, q2, q3, q4, q5, q6⟩ := id hsm
    have e3 : s₂ = ({ (U.calling g mk a).setFrames s₂.frames with heap := s₂.heap, slotsUsed := s₂.slotsUsed } : State).setVm s₂.vm := by
      have : s₂ = ({ s₂ with vm := (U.calling g mk a).vm } : State).setVm s₂.vm := rfl
      rw [e2] at this
      exact this
    have hf₂ : s₂.frames = .throwing q :: .java g :: U.frames.tail := hend
    have hW' : U.WarmedH s₂.vm := hW₂
    have hs₂ : s₂ = ((({ U with heap := s₂.heap, slotsUsed := s₂.slotsUsed } : State).setVm s₂.vm).setTop g).pushFrame (.throwing q) := by
      refine e3.trans ?_
      rw [hf₂, State.calling_eq h.top, State.setFrames_setFrames, State.pushFrame, State.frames_setTop _ hr', State.setTop_of_frames _ hr', State.setFrames_setFrames, hr]
      rfl
    have hsame : U.sameButNew ({ U with heap := s₂.heap, slotsUsed := s₂.slotsUsed } : State) L mc ms := by
      refine ⟨?_, q2, q3, q4, q5, q6⟩
      obtain ⟨t, ht, -⟩ := State.frames_cons hr
      show ({ U with heap := s₂.heap, slotsUsed := s₂.slotsUsed } : State) = { U.setFrames U.frames with heap := s₂.heap, slotsUsed := s₂.slotsUsed }
      rw [State.setFrames_self ht]
    subst hg
    refine Or.inr ⟨q, ⟨(({ U with heap := s₂.heap, slotsUsed := s₂.slotsUsed } : State).setVm s₂.vm), Ls ++ L, c0 + mc, s0 + ms⟩,
      ⟨X.admits, X.cas, X.clock, X.frames, X.room, X.hears, X.method, X.code, (X.here.setHeapUsed s₂.heap s₂.slotsUsed).setVm hW'.alike, X.tail, State.WarmedH.trans X.warmed hW', X.limits, X.bytes, X.same.trans (hsame.setVm s.vm)⟩,
      ⟨g, mk, s₂, L, E, ce, rfl, rfl, hx, hce, hcv, hcl, rfl, hL, rfl, rfl⟩, ?_⟩
    show Steps p.tables e below _ (((({ U with heap := s₂.heap, slotsUsed := s₂.slotsUsed } : State).setVm s₂.vm).setTop g).pushFrame (.throwing q))
    rw [← hs₂]
    exact hsteps
end Payer
section Calls
variable {p : Program} {l : Launch} {e : Env} {R : Room} {s : State} {m : MethodId} {args : Array Value} {below : List Frame} {meth : Method} {c : Code} {T : State} {locs : List Loc} {cells slots : Nat}
theorem vx_callV (X : Stand p l e R s m args below meth c T locs cells slots) (hexec : p.tables.exec = Jvm.exec) {own C : String} {index : Nat} {y : MethodName} {bytes : ByteArray} {maxL : Nat} {ret : Option FieldType}
    (hown : s.vm.findClass own = some m.cls) (hlink : (Cond.methodLink own index y).before args s = true) (hinst : (Cond.instanceMethod y).before args s = true) (hsel : (Cond.selects C y y).before args s = true)
    (hcode : (Cond.code y bytes maxL ret).before args s = true) (hy : y.cls ≠ "java/lang/invoke/MethodHandle" ∧ y.cls ≠ "java/lang/invoke/VarHandle")
    {W9 : Nat} {Pre : Pt → Array Value → Prop} {Post : Pt → Array Value → Option Value → Pt → Prop} {PostX : Pt → Array Value → Addr → Pt → Prop} (hK : vx_Back l R p e below s args y 3 W9 Pre Post PostX)
    {b : Addr} {cellB : Cell} (hcell : T.heap[b]? = some cellB) (hobj : cellB.vm.isStatics = false) (hcls : s.vm.findClass C = some cellB.cls)
    {g : JFrame} (hg : g.method = m) (hsize : g.locals.size = c.maxLocals) {argsL rest : List Value} (hlen : ∀ sig, parseMethodDescriptor y.desc = some sig → argsL.length = sig.parameters.length)
    (hstack : g.stack = argsL.reverse ++ .ref b :: rest) (hW : 2 * g.monitorRoom + (rest.map fun v => v.category).sum ≤ W9) (hdg : decode c.code g.pc = .ok (.invokevirtual index, 3))
    (hpre : ∀ vm₁, s.WarmedH vm₁ → Pre ⟨T.setVm vm₁, locs, cells, slots⟩ (Value.ref b :: argsL).toArray) :
    (∃ (v : Option Value) (vm₁ : Vm) (B : Pt), s.WarmedH vm₁ ∧ Stand p l e R s m args below meth c B.U B.locs B.cells B.slots ∧ Post ⟨T.setVm vm₁, locs, cells, slots⟩ (Value.ref b :: argsL).toArray v B ∧
      ∀ target, Steps p.tables e below (B.U.setTop { g with pc := g.pc + 3, stack := v.toList ++ rest }) target → Steps p.tables e below (T.setTop g) target) ∨
    (∃ (q : Addr) (vm₁ : Vm) (B : Pt), s.WarmedH vm₁ ∧ Stand p l e R s m args below meth c B.U B.locs B.cells B.slots ∧ PostX ⟨T.setVm vm₁, locs, cells, slots⟩ (Value.ref b :: argsL).toArray q B ∧
      Steps p.tables e below (T.setTop g) ((B.U.setTop { g with stack := rest }).pushFrame (.throwing q))) := by
  obtain ⟨mk, methM, hnamed, hmethM, hstM, habM⟩ := Cond.instanceMethod_spec hinst
  obtain ⟨methM', cM, hmethM', -, -, -, -, -, -, hsigM⟩ := Cond.code_spec hnamed hcode
  cases hmethM.symm.trans hmethM'
  obtain ⟨c2, r2, m2, q1, q2, q3, q4, kP, hkP, hkPi⟩ := Cond.selects_spec hsel
  cases hcls.symm.trans q1
  cases (State.methodFound?_of_named hnamed hy).symm.trans q2
  cases hnamed.symm.trans q3
  have hselP : selectMethod e.platform s.vm cellB.cls mk = .method mk := by rw [Launch.admits_selectMethod X.admits]; exact q4
  obtain ⟨vm₁, X₁, hstep₁⟩ := X.invokevirtual hexec hown hlink hnamed hmethM hstM hkP hkPi hy (a := b) (cell := cellB) hcell
    (fun z h => by rw [h] at hobj; cases hobj) hselP hmethM habM hkP hkPi (g := g) hg (argsL := argsL) (rest := rest) (hlen _ hsigM) hstack hdg
  rcases hK m meth c ⟨T.setVm vm₁, locs, cells, slots⟩ { g with stack := rest } (.invokevirtual index) mk (Value.ref b :: argsL).toArray X₁ hg hsize hdg hW (X₁.named hnamed) (hpre vm₁ X₁.warmed) with ⟨v, B, X', hpost, hsteps⟩ | ⟨q, B, X', hpost, hsteps⟩
  · exact Or.inl ⟨v, vm₁, B, X₁.warmed, X', hpost, fun target h => hstep₁ _ fun acts => by rw [doInvoke_state]; exact hsteps.trans h⟩
  · exact Or.inr ⟨q, vm₁, B, X₁.warmed, X', hpost, hstep₁ _ fun acts => by rw [doInvoke_state]; exact hsteps⟩
theorem vx_callS (X : Stand p l e R s m args below meth c T locs cells slots) (hexec : p.tables.exec = Jvm.exec) {own : String} {index : Nat} {y : MethodName} {bytes : ByteArray} {maxL : Nat} {ret : Option FieldType}
    (hown : s.vm.findClass own = some m.cls) (hlink : (Cond.methodLink own index y).before args s = true) (hstat : (Cond.static y).before args s = true) (hinit : (Cond.initialized y.cls).before args s = true)
    (hcode : (Cond.code y bytes maxL ret).before args s = true) (hy : y.cls ≠ "java/lang/invoke/MethodHandle" ∧ y.cls ≠ "java/lang/invoke/VarHandle")
    {W9 : Nat} {Pre : Pt → Array Value → Prop} {Post : Pt → Array Value → Option Value → Pt → Prop} {PostX : Pt → Array Value → Addr → Pt → Prop} (hK : vx_Back l R p e below s args y 3 W9 Pre Post PostX)
    {g : JFrame} (hg : g.method = m) (hsize : g.locals.size = c.maxLocals) {argsL rest : List Value} (hlen : ∀ sig, parseMethodDescriptor y.desc = some sig → argsL.length = sig.parameters.length)
    (hstack : g.stack = argsL.reverse ++ rest) (hW : 2 * g.monitorRoom + (rest.map fun v => v.category).sum ≤ W9) (hdg : decode c.code g.pc = .ok (.invokestatic index, 3))
    (hpre : ∀ vm₁, s.WarmedH vm₁ → Pre ⟨T.setVm vm₁, locs, cells, slots⟩ argsL.toArray) :
    (∃ (v : Option Value) (vm₁ : Vm) (B : Pt), s.WarmedH vm₁ ∧ Stand p l e R s m args below meth c B.U B.locs B.cells B.slots ∧ Post ⟨T.setVm vm₁, locs, cells, slots⟩ argsL.toArray v B ∧
      ∀ target, Steps p.tables e below (B.U.setTop { g with pc := g.pc + 3, stack := v.toList ++ rest }) target → Steps p.tables e below (T.setTop g) target) ∨
    (∃ (q : Addr) (vm₁ : Vm) (B : Pt), s.WarmedH vm₁ ∧ Stand p l e R s m args below meth c B.U B.locs B.cells B.slots ∧ PostX ⟨T.setVm vm₁, locs, cells, slots⟩ argsL.toArray q B ∧
      Steps p.tables e below (T.setTop g) ((B.U.setTop { g with stack := rest }).pushFrame (.throwing q))) := by
  obtain ⟨mk, hnamed⟩ := Cond.code_named hcode
  obtain ⟨methM, cM, hmethM, -, -, -, -, -, -, hsigM⟩ := Cond.code_spec hnamed hcode
  have hstatic : methM.isStatic = true := Cond.static_spec hnamed hmethM hstat
  obtain ⟨kP, hkP, -⟩ := className_of_methodNamed hnamed
  have hinitP : kP.init = .initialized := Cond.initialized_spec (findClass_of_methodNamed hnamed) hkP hinit
  obtain ⟨vm₁, X₁, hstep₁⟩ := X.invokestatic hexec hown hlink hnamed hmethM hstatic hkP hinitP hy (g := g) hg (argsL := argsL) (rest := rest) (hlen _ hsigM) hstack hdg
  rcases hK m meth c ⟨T.setVm vm₁, locs, cells, slots⟩ { g with stack := rest } (.invokestatic index) mk argsL.toArray X₁ hg hsize hdg hW (X₁.named hnamed) (hpre vm₁ X₁.warmed) with ⟨v, B, X', hpost, hsteps⟩ | ⟨q, B, X', hpost, hsteps⟩
  · exact Or.inl ⟨v, vm₁, B, X₁.warmed, X', hpost, fun target h => hstep₁ _ fun acts => by rw [doInvoke_state]; exact hsteps.trans h⟩
  · exact Or.inr ⟨q, vm₁, B, X₁.warmed, X', hpost, hstep₁ _ fun acts => by rw [doInvoke_state]; exact hsteps⟩
end Calls
theorem vx_cls {s : State} {T : State} {vm₁ : Vm} {E : String} {k : ClassId} (hW : s.WarmedH vm₁) (h : (T.setVm vm₁).vm.findClass E = some k) : s.vm.findClass E = some k := by
  have h1 : vm₁.findClass E = some k := h
  rw [hW.alike.findClass] at h1
  exact h1
/-- the method's frame g, with q thrown over it -/
def vx_W (p : Program) (l : Launch) (e : Env) (R : Room) (s : State) (m : MethodId) (args : Array Value) (below : List Frame) (meth : Method) (c : Code) (H : Heap) (locs : List Loc) (cells slots : Nat) (Q : State → Prop) (g : JFrame) (q : Addr) : Prop :=
  ∀ T : State, T.heap = H → Stand p l e R s m args below meth c T locs cells slots → ∃ t, Steps p.tables e below ((T.setTop g).pushFrame (.throwing q)) t ∧ Q t
def vx_Run (p : Program) (l : Launch) (e : Env) (R : Room) (s : State) (m : MethodId) (args : Array Value) (below : List Frame) (meth : Method) (c : Code) (H : Heap) (locs : List Loc) (cells slots mc ms : Nat) (g : JFrame) (rest : List Value) (Qa : State → Outcome → State → Prop) (XC : String → State → State → Prop) (free : Addr → Prop) : Prop :=
  ∀ T : State, T.heap = H → Stand p l e R s m args below meth c T locs cells slots →
    (∃ (v : Option Value) (st₀ t T' : State) (L : List Loc), st₀.heap = H ∧ Stand p l e R s m args below meth c T' (locs ++ L) (cells + mc) (slots + ms) ∧ (∀ q ∈ L, free q.base) ∧ T'.heap = t.heap ∧ T'.vm = t.vm ∧ Qa st₀ (.returned v) t ∧
      Goes p e below T g T' { g with pc := g.pc + 3, stack := v.toList ++ rest }) ∨
    (∃ (q : Addr) (st₀ t T' : State) (L : List Loc) (E : String) (ce : Cell), st₀.heap = H ∧ Stand p l e R s m args below meth c T' (locs ++ L) (cells + mc) (slots + ms) ∧ (∀ z ∈ L, free z.base) ∧ T'.heap = t.heap ∧ T'.vm = t.vm ∧ XC E st₀ t ∧ t.heap[q]? = some ce ∧ ce.vm = .none ∧ s.vm.findClass E = some ce.cls ∧
      Steps p.tables e below (T.setTop g) ((T'.setTop { g with stack := rest }).pushFrame (.throwing q)))
def vx_X {S : Type} (px : S → Prop) (B : String → S → State → Prop) (A : Nat → Prop) : String → State → State → Prop := fun E st t => ∃ u : S, px u ∧ B E u t ∧ va_F A st t
section Runs
variable {p : Program} {l : Launch} {e : Env} {R : Room} {s : State} {m : MethodId} {args : Array Value} {below : List Frame} {meth : Method} {c : Code} {H : Heap} {locs : List Loc} {cells slots : Nat}
variable {y : MethodName} {bytes cc : ByteArray} {maxL nL mc ms n index : Nat} {ret : Option FieldType} {ws : List Cond} {rm : Room} {Pc : Array Value → State → Prop} {Qc : Array Value → State → Outcome → State → Prop} {XC : String → State → State → Prop} {free : Addr → Prop} {Ts : List Cond} {own C : String} {b : Addr} {As rest : List Value} {g : JFrame}
theorem vx_callBack (cb : CallB R s args own index y bytes maxL ret ws rm mc ms n) (hM : vx_Met l y ws rm Pc Qc XC mc ms free) (hbl : FrameBlind Pc) : vx_Back l R p e below s args y 3 8 (PreOf R mc ms Pc) (PostOf Qc mc ms free) (vx_Post XC mc ms free) := by
  obtain ⟨hrc, hrs, hfr, hlo, hws, hcw, -, hini, -⟩ := cb
  exact vx_back (bytes := bytes) (maxL := maxL) (ret := ret) hM hbl hrc hrs hfr hlo hws hcw (fun a' U hW => word_at hW (Or.inl (by first | rfl | simp [Cond.onTables, Cond.keeps, Cond.steady])) hini)
theorem vx_runV (S : CallFix p m c cc nL s args Ts own) (hM : vx_Met l y ws rm Pc Qc XC mc ms free) (cw : CallW R s args own C index y bytes maxL ret ws rm mc ms n) (hp : PreV s H C b Pc As)
    (hg : g.method = m) (hn : As.length = n) (hsize : g.locals.size = nL) (hstack : g.stack = As.reverse ++ .ref b :: rest) (hW : 2 * g.monitorRoom + (rest.map fun v => v.category).sum ≤ 8) (hdg : decode cc g.pc = .ok (.invokevirtual index, 3)) (hf : cells + mc ≤ R.cells ∧ slots + ms ≤ R.slots) :
    vx_Run p l e R s m args below meth c H locs cells slots mc ms g rest (Qc (Value.ref b :: As).toArray) XC free := by
  have hK : vx_Back l R p e below s args y 3 8 (PreOf R mc ms Pc) (PostOf Qc mc ms free) (vx_Post XC mc ms free) := vx_callBack cw.1 hM hp.1
  obtain ⟨⟨-, -, -, -, -, -, hcode, -, hy, hlen, hl⟩, hin, hse⟩ := cw
  obtain ⟨hx, hb, hml, ho, -⟩ := S
  obtain ⟨-, ⟨cellB, hcB, hoB, hclB⟩, hPc⟩ := hp
  intro T hT X
  rcases vx_callV X hx (C := C) (bytes := bytes) (maxL := maxL) (ret := ret) ho hl hin hse hcode hy hK (by rw [hT]; exact hcB) hoB hclB hg (hsize.trans hml.symm) (argsL := As) (rest := rest) (fun sig h => hn.trans (hlen sig h)) hstack hW (by rw [hb]; exact hdg)
    (fun vm₁ hW₁ => ⟨hf.1, hf.2, hPc (T.setVm vm₁) hT hW₁⟩) with ⟨v, vm₁, ⟨U', l2, c2, s2⟩, hW₁, X', ⟨g', mk, t, L, e1, e2, hq, h1, hL, h2, h3⟩, st⟩ | ⟨q, vm₁, ⟨U', l2, c2, s2⟩, hW₁, X', ⟨g', mk, t, L, E, ce, e1, e2, hq, hce, hcv, hcl, h1, hL, h2, h3⟩, st⟩
  · dsimp only [Pt.U, Pt.locs, Pt.cells, Pt.slots] at X' e1 e2 h1 h2 h3 st
    subst h1; subst h2; subst h3
    exact Or.inl ⟨v, (T.setVm vm₁).calling g' mk (Value.ref b :: As).toArray, t, U', L, hT, X', hL, e1, e2, hq, st⟩
  · dsimp only [Pt.U, Pt.locs, Pt.cells, Pt.slots] at X' e1 e2 h1 h2 h3 st hcl
    subst h1; subst h2; subst h3
    exact Or.inr ⟨q, (T.setVm vm₁).calling g' mk (Value.ref b :: As).toArray, t, U', L, E, ce, hT, X', hL, e1, e2, hq, hce, hcv, vx_cls hW₁ hcl, st⟩
theorem vx_runS (S : CallFix p m c cc nL s args Ts own) (hM : vx_Met l y ws rm Pc Qc XC mc ms free) (cw : CallB R s args own index y bytes maxL ret ws rm mc ms n ∧ (Cond.static y).before args s = true) (hp : PreS s H Pc As)
    (hg : g.method = m) (hn : As.length = n) (hsize : g.locals.size = nL) (hstack : g.stack = As.reverse ++ rest) (hW : 2 * g.monitorRoom + (rest.map fun v => v.category).sum ≤ 8) (hdg : decode cc g.pc = .ok (.invokestatic index, 3)) (hf : cells + mc ≤ R.cells ∧ slots + ms ≤ R.slots) :
    vx_Run p l e R s m args below meth c H locs cells slots mc ms g rest (Qc As.toArray) XC free := by
  have hK : vx_Back l R p e below s args y 3 8 (PreOf R mc ms Pc) (PostOf Qc mc ms free) (vx_Post XC mc ms free) := vx_callBack cw.1 hM hp.1
  obtain ⟨⟨-, -, -, -, -, -, hcode, hini, hy, hlen, hl⟩, hstt⟩ := cw
  obtain ⟨hx, hb, hml, ho, -⟩ := S
  intro T hT X
  rcases vx_callS X hx (bytes := bytes) (maxL := maxL) (ret := ret) ho hl hstt hini hcode hy hK hg (hsize.trans hml.symm) (argsL := As) (rest := rest) (fun sig h => hn.trans (hlen sig h)) hstack hW (by rw [hb]; exact hdg)
    (fun vm₁ hW₁ => ⟨hf.1, hf.2, hp.2 (T.setVm vm₁) hT hW₁⟩) with ⟨v, vm₁, ⟨U', l2, c2, s2⟩, hW₁, X', ⟨g', mk, t, L, e1, e2, hq, h1, hL, h2, h3⟩, st⟩ | ⟨q, vm₁, ⟨U', l2, c2, s2⟩, hW₁, X', ⟨g', mk, t, L, E, ce, e1, e2, hq, hce, hcv, hcl, h1, hL, h2, h3⟩, st⟩
  · dsimp only [Pt.U, Pt.locs, Pt.cells, Pt.slots] at X' e1 e2 h1 h2 h3 st
    subst h1; subst h2; subst h3
    exact Or.inl ⟨v, (T.setVm vm₁).calling g' mk As.toArray, t, U', L, hT, X', hL, e1, e2, hq, st⟩
  · dsimp only [Pt.U, Pt.locs, Pt.cells, Pt.slots] at X' e1 e2 h1 h2 h3 st hcl
    subst h1; subst h2; subst h3
    exact Or.inr ⟨q, (T.setVm vm₁).calling g' mk As.toArray, t, U', L, E, ce, hT, X', hL, e1, e2, hq, hce, hcv, vx_cls hW₁ hcl, st⟩
end Runs
section Rows
variable {p : Program} {l : Launch} {e : Env} {R : Room} {s : State} {m : MethodId} {args : Array Value} {below : List Frame} {meth : Method} {c : Code} {H : Heap} {locs : List Loc} {cells slots : Nat} {Q : State → Prop}
variable {mc ms : Nat} {free : Addr → Prop} {A0 A1 : Nat → Prop} {H0 : Heap} {a : Array Value} {pc : Nat} {ls : Array Slot} {st0 rest : List Value}
theorem vx_keep {st₀ t T' : State} {L : List Loc} (h0 : st₀.heap = H) (e1 : T'.heap = t.heap) (hS : va_S A0 H0 H locs) (hA : ∀ q, q < H.size → A1 q → A0 q) (hf : ∀ q, free q → A0 q) (hL : ∀ q ∈ L, free q.base) (hF : va_F A1 st₀ t) :
    H.size ≤ T'.heap.size ∧ (∀ q : Nat, q < H.size → ¬ A1 q → T'.heap[q]? = H[q]?) ∧ va_S A0 H0 T'.heap (locs ++ L) := by
  obtain ⟨hz, hk⟩ := hF
  rw [h0] at hz hk
  exact ⟨by rw [e1]; exact hz, fun q h1 h2 => by rw [e1]; exact hk q h1 h2,
    ⟨Nat.le_trans hS.1 (by rw [e1]; exact hz), fun q h1 h2 => by rw [e1, hk q (Nat.lt_of_lt_of_le h1 hS.1) (fun z => h2 (hA q (Nat.lt_of_lt_of_le h1 hS.1) z))]; exact hS.2.1 q h1 h2, fun q hq => by
      rcases List.mem_append.mp hq with h | h
      · exact hS.2.2 q h
      · exact hf _ (hL q h)⟩⟩
theorem vx_calli {S SX : Type} {post : Int32 → S → Prop} {px : SX → Prop} {B : S → State → Prop} {BX : String → SX → State → Prop} {AX : Nat → Prop} (hr : vx_Run p l e R s m args below meth c H locs cells slots mc ms (F0 m pc ls st0) rest (va_Qi post B A1 a) (vx_X px BX AX) free) (hS : va_S A0 H0 H locs) (hA : ∀ q, q < H.size → A1 q → A0 q) (hf : ∀ q, free q → A0 q) (hAX : ∀ q, q < H.size → AX q → A0 q)
    (kx : ∀ (E : String) (ce : Cell) (q9 : Addr) (u : SX) (t : State) (H1 : Heap) (locs1 : List Loc), t.heap = H1 → s.vm.Alike t.vm → px u → BX E u t → H.size ≤ H1.size → (∀ q : Nat, q < H.size → ¬ AX q → H1[q]? = H[q]?) → va_S A0 H0 H1 locs1 → H1[q9]? = some ce → ce.vm = .none → s.vm.findClass E = some ce.cls → vx_W p l e R s m args below meth c H1 locs1 (cells + mc) (slots + ms) Q (F0 m pc ls rest) q9)
    (kk : ∀ (r : Int32) (u : S) (t : State) (H1 : Heap) (locs1 : List Loc), t.heap = H1 → s.vm.Alike t.vm → post r u → B u t → H.size ≤ H1.size → (∀ q : Nat, q < H.size → ¬ A1 q → H1[q]? = H[q]?) → va_S A0 H0 H1 locs1 → W p l e R s m args below meth c H1 locs1 (cells + mc) (slots + ms) Q (F0 m (pc + 3) ls (.int r :: rest))) : W p l e R s m args below meth c H locs cells slots Q (F0 m pc ls st0) := by
  intro T hT X
  rcases hr T hT X with ⟨v, st₀, t, T', L, h0, X', hL, e1, e2, ⟨⟨r, u, hv, hp, hb⟩, hF⟩, st⟩ | ⟨q, st₀, t, T', L, E, ce, h0, X', hL, e1, e2, ⟨u, hp, hb, hF⟩, hce, hcv, hcl, st⟩
  · cases hv
    obtain ⟨k1, k2, k3⟩ := vx_keep h0 e1 hS hA hf hL hF
    obtain ⟨t2, a1, b1⟩ := kk r u t T'.heap (locs ++ L) e1.symm (by rw [← e2]; exact X'.warmed.alike) hp hb k1 k2 k3 T' rfl X'
    exact ⟨t2, st t2 a1, b1⟩
  · obtain ⟨k1, k2, k3⟩ := vx_keep h0 e1 hS hAX hf hL hF
    obtain ⟨t2, a1, b1⟩ := kx E ce q u t T'.heap (locs ++ L) e1.symm (by rw [← e2]; exact X'.warmed.alike) hp hb k1 k2 k3 (by rw [e1]; exact hce) hcv hcl T' rfl X'
    exact ⟨t2, st.trans a1, b1⟩
theorem vx_calll {S SX : Type} {post : Int64 → S → Prop} {px : SX → Prop} {B : S → State → Prop} {BX : String → SX → State → Prop} {AX : Nat → Prop} (hr : vx_Run p l e R s m args below meth c H locs cells slots mc ms (F0 m pc ls st0) rest (va_Ql post B A1 a) (vx_X px BX AX) free) (hS : va_S A0 H0 H locs) (hA : ∀ q, q < H.size → A1 q → A0 q) (hf : ∀ q, free q → A0 q) (hAX : ∀ q, q < H.size → AX q → A0 q)
    (kx : ∀ (E : String) (ce : Cell) (q9 : Addr) (u : SX) (t : State) (H1 : Heap) (locs1 : List Loc), t.heap = H1 → s.vm.Alike t.vm → px u → BX E u t → H.size ≤ H1.size → (∀ q : Nat, q < H.size → ¬ AX q → H1[q]? = H[q]?) → va_S A0 H0 H1 locs1 → H1[q9]? = some ce → ce.vm = .none → s.vm.findClass E = some ce.cls → vx_W p l e R s m args below meth c H1 locs1 (cells + mc) (slots + ms) Q (F0 m pc ls rest) q9)
    (kk : ∀ (r : Int64) (u : S) (t : State) (H1 : Heap) (locs1 : List Loc), t.heap = H1 → s.vm.Alike t.vm → post r u → B u t → H.size ≤ H1.size → (∀ q : Nat, q < H.size → ¬ A1 q → H1[q]? = H[q]?) → va_S A0 H0 H1 locs1 → W p l e R s m args below meth c H1 locs1 (cells + mc) (slots + ms) Q (F0 m (pc + 3) ls (.long r :: rest))) : W p l e R s m args below meth c H locs cells slots Q (F0 m pc ls st0) := by
  intro T hT X
  rcases hr T hT X with ⟨v, st₀, t, T', L, h0, X', hL, e1, e2, ⟨⟨r, u, hv, hp, hb⟩, hF⟩, st⟩ | ⟨q, st₀, t, T', L, E, ce, h0, X', hL, e1, e2, ⟨u, hp, hb, hF⟩, hce, hcv, hcl, st⟩
  · cases hv
    obtain ⟨k1, k2, k3⟩ := vx_keep h0 e1 hS hA hf hL hF
    obtain ⟨t2, a1, b1⟩ := kk r u t T'.heap (locs ++ L) e1.symm (by rw [← e2]; exact X'.warmed.alike) hp hb k1 k2 k3 T' rfl X'
    exact ⟨t2, st t2 a1, b1⟩
  · obtain ⟨k1, k2, k3⟩ := vx_keep h0 e1 hS hAX hf hL hF
    obtain ⟨t2, a1, b1⟩ := kx E ce q u t T'.heap (locs ++ L) e1.symm (by rw [← e2]; exact X'.warmed.alike) hp hb k1 k2 k3 (by rw [e1]; exact hce) hcv hcl T' rfl X'
    exact ⟨t2, st.trans a1, b1⟩
theorem vx_callf {S SX : Type} {post : UInt32 → S → Prop} {px : SX → Prop} {B : S → State → Prop} {BX : String → SX → State → Prop} {AX : Nat → Prop} (hr : vx_Run p l e R s m args below meth c H locs cells slots mc ms (F0 m pc ls st0) rest (va_Qf post B A1 a) (vx_X px BX AX) free) (hS : va_S A0 H0 H locs) (hA : ∀ q, q < H.size → A1 q → A0 q) (hf : ∀ q, free q → A0 q) (hAX : ∀ q, q < H.size → AX q → A0 q)
    (kx : ∀ (E : String) (ce : Cell) (q9 : Addr) (u : SX) (t : State) (H1 : Heap) (locs1 : List Loc), t.heap = H1 → s.vm.Alike t.vm → px u → BX E u t → H.size ≤ H1.size → (∀ q : Nat, q < H.size → ¬ AX q → H1[q]? = H[q]?) → va_S A0 H0 H1 locs1 → H1[q9]? = some ce → ce.vm = .none → s.vm.findClass E = some ce.cls → vx_W p l e R s m args below meth c H1 locs1 (cells + mc) (slots + ms) Q (F0 m pc ls rest) q9)
    (kk : ∀ (r : UInt32) (u : S) (t : State) (H1 : Heap) (locs1 : List Loc), t.heap = H1 → s.vm.Alike t.vm → post r u → B u t → H.size ≤ H1.size → (∀ q : Nat, q < H.size → ¬ A1 q → H1[q]? = H[q]?) → va_S A0 H0 H1 locs1 → W p l e R s m args below meth c H1 locs1 (cells + mc) (slots + ms) Q (F0 m (pc + 3) ls (.float r :: rest))) : W p l e R s m args below meth c H locs cells slots Q (F0 m pc ls st0) := by
  intro T hT X
  rcases hr T hT X with ⟨v, st₀, t, T', L, h0, X', hL, e1, e2, ⟨⟨r, u, hv, hp, hb⟩, hF⟩, st⟩ | ⟨q, st₀, t, T', L, E, ce, h0, X', hL, e1, e2, ⟨u, hp, hb, hF⟩, hce, hcv, hcl, st⟩
  · cases hv
    obtain ⟨k1, k2, k3⟩ := vx_keep h0 e1 hS hA hf hL hF
    obtain ⟨t2, a1, b1⟩ := kk r u t T'.heap (locs ++ L) e1.symm (by rw [← e2]; exact X'.warmed.alike) hp hb k1 k2 k3 T' rfl X'
    exact ⟨t2, st t2 a1, b1⟩
  · obtain ⟨k1, k2, k3⟩ := vx_keep h0 e1 hS hAX hf hL hF
    obtain ⟨t2, a1, b1⟩ := kx E ce q u t T'.heap (locs ++ L) e1.symm (by rw [← e2]; exact X'.warmed.alike) hp hb k1 k2 k3 (by rw [e1]; exact hce) hcv hcl T' rfl X'
    exact ⟨t2, st.trans a1, b1⟩
theorem vx_calld {S SX : Type} {post : UInt64 → S → Prop} {px : SX → Prop} {B : S → State → Prop} {BX : String → SX → State → Prop} {AX : Nat → Prop} (hr : vx_Run p l e R s m args below meth c H locs cells slots mc ms (F0 m pc ls st0) rest (va_Qd post B A1 a) (vx_X px BX AX) free) (hS : va_S A0 H0 H locs) (hA : ∀ q, q < H.size → A1 q → A0 q) (hf : ∀ q, free q → A0 q) (hAX : ∀ q, q < H.size → AX q → A0 q)
    (kx : ∀ (E : String) (ce : Cell) (q9 : Addr) (u : SX) (t : State) (H1 : Heap) (locs1 : List Loc), t.heap = H1 → s.vm.Alike t.vm → px u → BX E u t → H.size ≤ H1.size → (∀ q : Nat, q < H.size → ¬ AX q → H1[q]? = H[q]?) → va_S A0 H0 H1 locs1 → H1[q9]? = some ce → ce.vm = .none → s.vm.findClass E = some ce.cls → vx_W p l e R s m args below meth c H1 locs1 (cells + mc) (slots + ms) Q (F0 m pc ls rest) q9)
    (kk : ∀ (r : UInt64) (u : S) (t : State) (H1 : Heap) (locs1 : List Loc), t.heap = H1 → s.vm.Alike t.vm → post r u → B u t → H.size ≤ H1.size → (∀ q : Nat, q < H.size → ¬ A1 q → H1[q]? = H[q]?) → va_S A0 H0 H1 locs1 → W p l e R s m args below meth c H1 locs1 (cells + mc) (slots + ms) Q (F0 m (pc + 3) ls (.double r :: rest))) : W p l e R s m args below meth c H locs cells slots Q (F0 m pc ls st0) := by
  intro T hT X
  rcases hr T hT X with ⟨v, st₀, t, T', L, h0, X', hL, e1, e2, ⟨⟨r, u, hv, hp, hb⟩, hF⟩, st⟩ | ⟨q, st₀, t, T', L, E, ce, h0, X', hL, e1, e2, ⟨u, hp, hb, hF⟩, hce, hcv, hcl, st⟩
  · cases hv
    obtain ⟨k1, k2, k3⟩ := vx_keep h0 e1 hS hA hf hL hF
    obtain ⟨t2, a1, b1⟩ := kk r u t T'.heap (locs ++ L) e1.symm (by rw [← e2]; exact X'.warmed.alike) hp hb k1 k2 k3 T' rfl X'
    exact ⟨t2, st t2 a1, b1⟩
  · obtain ⟨k1, k2, k3⟩ := vx_keep h0 e1 hS hAX hf hL hF
    obtain ⟨t2, a1, b1⟩ := kx E ce q u t T'.heap (locs ++ L) e1.symm (by rw [← e2]; exact X'.warmed.alike) hp hb k1 k2 k3 (by rw [e1]; exact hce) hcv hcl T' rfl X'
    exact ⟨t2, st.trans a1, b1⟩
theorem vx_callv {S SX : Type} {post : S → Prop} {px : SX → Prop} {B : S → State → Prop} {BX : String → SX → State → Prop} {AX : Nat → Prop} (hr : vx_Run p l e R s m args below meth c H locs cells slots mc ms (F0 m pc ls st0) rest (va_Qv post B A1 a) (vx_X px BX AX) free) (hS : va_S A0 H0 H locs) (hA : ∀ q, q < H.size → A1 q → A0 q) (hf : ∀ q, free q → A0 q) (hAX : ∀ q, q < H.size → AX q → A0 q)
    (kx : ∀ (E : String) (ce : Cell) (q9 : Addr) (u : SX) (t : State) (H1 : Heap) (locs1 : List Loc), t.heap = H1 → s.vm.Alike t.vm → px u → BX E u t → H.size ≤ H1.size → (∀ q : Nat, q < H.size → ¬ AX q → H1[q]? = H[q]?) → va_S A0 H0 H1 locs1 → H1[q9]? = some ce → ce.vm = .none → s.vm.findClass E = some ce.cls → vx_W p l e R s m args below meth c H1 locs1 (cells + mc) (slots + ms) Q (F0 m pc ls rest) q9)
    (kk : ∀ (u : S) (t : State) (H1 : Heap) (locs1 : List Loc), t.heap = H1 → s.vm.Alike t.vm → post u → B u t → H.size ≤ H1.size → (∀ q : Nat, q < H.size → ¬ A1 q → H1[q]? = H[q]?) → va_S A0 H0 H1 locs1 → W p l e R s m args below meth c H1 locs1 (cells + mc) (slots + ms) Q (F0 m (pc + 3) ls (rest))) : W p l e R s m args below meth c H locs cells slots Q (F0 m pc ls st0) := by
  intro T hT X
  rcases hr T hT X with ⟨v, st₀, t, T', L, h0, X', hL, e1, e2, ⟨⟨u, hv, hp, hb⟩, hF⟩, st⟩ | ⟨q, st₀, t, T', L, E, ce, h0, X', hL, e1, e2, ⟨u, hp, hb, hF⟩, hce, hcv, hcl, st⟩
  · cases hv
    obtain ⟨k1, k2, k3⟩ := vx_keep h0 e1 hS hA hf hL hF
    obtain ⟨t2, a1, b1⟩ := kk u t T'.heap (locs ++ L) e1.symm (by rw [← e2]; exact X'.warmed.alike) hp hb k1 k2 k3 T' rfl X'
    exact ⟨t2, st t2 a1, b1⟩
  · obtain ⟨k1, k2, k3⟩ := vx_keep h0 e1 hS hAX hf hL hF
    obtain ⟨t2, a1, b1⟩ := kx E ce q u t T'.heap (locs ++ L) e1.symm (by rw [← e2]; exact X'.warmed.alike) hp hb k1 k2 k3 (by rw [e1]; exact hce) hcv hcl T' rfl X'
    exact ⟨t2, st.trans a1, b1⟩
/-- caught by the row x of this method's table; the rows ahead don't take it -/
theorem vx_catch {own name : String} {E : String} {ce : Cell} {q : Addr} (hown : s.vm.findClass own = some m.cls) (pre : List ExceptionTableEntry) (x : ExceptionTableEntry) (suf : List ExceptionTableEntry) (hsplit : c.exceptionTable.toList = pre ++ x :: suf)
    (hpass : ∀ z ∈ pre, covers z pc = false ∨ (z.catchType ≠ 0 ∧ ∃ nm : String, (Cond.classLink own z.catchType nm).before args s = true ∧ va_Nc E nm s)) (hx : covers x pc = true) (h0 : x.catchType ≠ 0)
    (hlink : (Cond.classLink own x.catchType name).before args s = true) (hcast : (Cond.castable E name).before args s = true) (hcell : H[q]? = some ce) (hv : ce.vm = .none) (hcl : s.vm.findClass E = some ce.cls)
    (kk : W p l e R s m args below meth c H locs cells slots Q (F0 m x.handlerPc ls [.ref q])) : vx_W p l e R s m args below meth c H locs cells slots Q (F0 m pc ls rest) q := by
  intro T hT X
  have hpl : e.platform.magicAccessors = ({} : Platform).magicAccessors := by rw [X.admits.platform]
  obtain ⟨c3, c4, hc3, hc4, hasg⟩ := Cond.castable_spec hcast
  cases Option.some.inj (hc3.symm.trans hcl)
  obtain ⟨c5, hc5, hcl5⟩ := Cond.classLink_spec hown hlink e.platform hpl
  cases Option.some.inj (hc4.symm.trans hc5)
  obtain ⟨vm', X', st⟩ := X.thenCaughtThrough q (g := F0 m pc ls rest) rfl (Steps.refl _) (by rw [hT]; exact hcell) (by rw [hv]; rfl) (by obtain ⟨k9, h9, -⟩ := Vm.findClass_spec hcl; exact ⟨k9, h9⟩) pre x suf hsplit
    (fun z hz => by
      rcases hpass z hz with h | ⟨hz0, nm, hl1, hn1⟩
      · exact Or.inl h
      · obtain ⟨c6, hc6, hcl6⟩ := Cond.classLink_spec hown hl1 e.platform hpl
        obtain ⟨a8, b8, h1, h2, h3⟩ := hn1
        cases Option.some.inj (h1.symm.trans hcl)
        cases Option.some.inj (h2.symm.trans hc6)
        exact Or.inr ⟨hz0, _, hcl6, h3⟩) hx (Or.inr ⟨h0, c4, hcl5, hasg⟩)
  obtain ⟨t, a1, b1⟩ := kk (T.setVm vm') hT X'
  exact ⟨t, st.trans a1, b1⟩
end Rows
section Ends
variable {p : Program} {l : Launch} {e : Env} {R : Room} {s : State} {m : MethodId} {args : Array Value} {below : List Frame} {meth : Method} {c : Code} {H : Heap} {locs : List Loc} {cells slots : Nat} {Q : State → Prop}
variable {mc ms : Nat} {free : Addr → Prop} {A0 A1 : Nat → Prop} {H0 : Heap} {a : Array Value} {ls : Array Slot} {st0 rest : List Value}
variable {Qc : Array Value → State → Outcome → State → Prop} {XC : String → State → State → Prop}
/-- what a body that may throw owes at its end -/
def vx_MQ (below : List Frame) (Qc : Array Value → State → Outcome → State → Prop) (XC : String → State → State → Prop) (a : Array Value) (s : State) (mc ms : Nat) (free : Addr → Prop) : State → Prop := fun t =>
  ∃ o, t.status = .running ∧ Ended t below o ∧ vx_Q Qc XC mc ms free a s o t
theorem vx_ret {g : JFrame} {mc ms : Nat} (k : W p l e R s m args below meth c H locs cells slots (MQ below Qc args s mc ms free) g) : W p l e R s m args below meth c H locs cells slots (vx_MQ below Qc XC args s mc ms free) g := by
  intro T hT X
  obtain ⟨t, a1, o, b1, b2, b3, b4⟩ := k T hT X
  exact ⟨t, a1, o, b1, b2, Or.inl ⟨b3, b4⟩⟩
/-- not caught here: it goes on to the caller -/
theorem vx_widen {g : JFrame} {q : Addr} {k n : Nat} (h1 : cells ≤ k) (h2 : slots ≤ n) (kk : vx_W p l e R s m args below meth c H locs k n Q g q) : vx_W p l e R s m args below meth c H locs cells slots Q g q := fun T hT X => kk T hT (stand_widen X h1 h2)
theorem vx_out {pc : Nat} {E : String} {ce : Cell} {q : Addr} {mc ms : Nat} (hout : ∀ x ∈ c.exceptionTable.toList, covers x pc = false) (hlocks : meth.locks = false) (hcell : H[q]? = some ce) (hv : ce.vm = .none) (hcl : s.vm.findClass E = some ce.cls)
    (hx : ∀ t : State, t.heap = H → s.vm.Alike t.vm → XC E s t) (hf : ∀ z ∈ locs, free z.base) (hc : cells ≤ mc) (hs : slots ≤ ms) :
    vx_W p l e R s m args below meth c H locs cells slots (vx_MQ below Qc XC args s mc ms free) (F0 m pc ls rest) q := by
  intro T hT X
  obtain ⟨st1, hrun, hend, hW, hsm⟩ := X.leaveThrown q (g := F0 m pc ls rest) rfl rfl rfl hout hlocks
  have hcell9 : (T.setFrames (.throwing q :: below)).heap[q]? = some ce := by
    show T.heap[q]? = some ce
    rw [hT]; exact hcell
  exact ⟨_, st1, .threw q, hrun, hend, Or.inr ⟨q, rfl, E, ce, locs, hx _ hT hW.alike, hcell9, hv, hcl, hW, hsm.mono hc hs, hf⟩⟩
theorem vx_frame {U : State} {k n : Nat} (h : s.sameButNew ({ U with vm := s.vm } : State) locs k n) : s.heap.size ≤ U.heap.size ∧ ∀ q : Nat, q < s.heap.size → (∀ z ∈ locs, z.base ≠ q) → U.heap[q]? = s.heap[q]? := by
  obtain ⟨-, h2, -, -, -, h6⟩ := h
  refine ⟨h2, fun q hq hz => ?_⟩
  obtain ⟨c9, e1, e2, e3, e4⟩ := h6 q _ (Array.getElem?_eq_getElem hq)
  have hs : c9.slots = (s.heap[q]).slots := Array.ext_getElem? fun i => e4 i fun hm => hz _ hm rfl
  have h9 : c9 = s.heap[q] := by
    rw [hs] at e2
    exact e2
  have e5 : U.heap[q]? = some c9 := e1
  rw [e5, h9, Array.getElem?_eq_getElem hq]
/-- the words of a throw but the four that speak of the heap -/
def vx_no (w : Cond) : Bool := decide (w ≠ .isRef (.static Bundle.tN "UNASSIGNED_STACK" Bundle.steD)) && decide (w ≠ .isRef (.static Bundle.tN "SUPPRESSED_SENTINEL" Bundle.listD)) && decide (w ≠ .laysStatic Bundle.tN "UNASSIGNED_STACK" Bundle.steD) && decide (w ≠ .laysStatic Bundle.tN "SUPPRESSED_SENTINEL" Bundle.listD)
def vx_at0 (own : String) (ic : Nat) (X : String) (names : List String) : List Cond := (Bundle.ownAtoms0 own ic X names).filter vx_no
def vx_atS (own : String) (ic : Nat) (X : String) (names : List String) : List Cond := (Bundle.ownAtoms own ic X names).filter vx_no
/-- a word that the tables alone decide, or a good one -/
def vx_ot (w : Cond) : Bool := w.onTables || goodWord w
theorem vx_ot_at {args a' : Array Value} {s U : State} {w : Cond} (hW : s.WarmedH U.vm) (hvm : s.vm = U.vm) (hg : vx_ot w = true) (h : w.before args s = true) : w.before a' U = true := by
  simp only [vx_ot, Bool.or_eq_true] at hg
  rcases hg with hg | hg
  · exact va_tabs hg hvm h
  · exact word_at hW (good_of_word hg) h
/-- a list's words: the good ones out of the method's own list, the others by premises of their own -/
theorem vx_hat {args : Array Value} {s : State} {L B : List Cond} (h1 : ∀ w ∈ L.filter goodWord, w.before args s = true) (h2 : ∀ w ∈ L.filter (fun w => !goodWord w), w ∈ B) (h3 : ∀ w ∈ B, w.before args s = true) : ∀ w ∈ L, w.before args s = true := by
  intro w hw
  by_cases g : goodWord w = true
  · exact h1 w (List.mem_filter.mpr ⟨hw, g⟩)
  · refine h3 w (h2 w (List.mem_filter.mpr ⟨hw, ?_⟩))
    show (!goodWord w) = true
    cases hgw : goodWord w
    · rfl
    · exact absurd hgw g
theorem vx_c {args : Array Value} {s : State} {w : Cond} {B : List Cond} (h : w.before args s = true) (t : ∀ w ∈ B, w.before args s = true) : ∀ w' ∈ w :: B, w'.before args s = true := fun w' h' => (List.mem_cons.mp h').elim (fun e => by rw [e]; exact h) (t w')
theorem vx_n {args : Array Value} {s : State} : ∀ w ∈ ([] : List Cond), w.before args s = true := fun _ h => nomatch h
theorem vx_own {args : Array Value} {s : State} {L : List Cond} (h1 : ∀ w ∈ L.filter vx_no, w.before args s = true)
    (hU : (Cond.isRef (.static Bundle.tN "UNASSIGNED_STACK" Bundle.steD)).before args s = true) (hN : (Cond.isRef (.static Bundle.tN "SUPPRESSED_SENTINEL" Bundle.listD)).before args s = true)
    (lU : (Cond.laysStatic Bundle.tN "UNASSIGNED_STACK" Bundle.steD).before args s = true) (lN : (Cond.laysStatic Bundle.tN "SUPPRESSED_SENTINEL" Bundle.listD).before args s = true) : ∀ w ∈ L, w.before args s = true := by
  intro w hw
  by_cases e1 : w = .isRef (.static Bundle.tN "UNASSIGNED_STACK" Bundle.steD)
  · rw [e1]; exact hU
  · by_cases e2 : w = .isRef (.static Bundle.tN "SUPPRESSED_SENTINEL" Bundle.listD)
    · rw [e2]; exact hN
    · by_cases e3 : w = .laysStatic Bundle.tN "UNASSIGNED_STACK" Bundle.steD
      · rw [e3]; exact lU
      · by_cases e4 : w = .laysStatic Bundle.tN "SUPPRESSED_SENTINEL" Bundle.listD
        · rw [e4]; exact lN
        · exact h1 w (List.mem_filter.mpr ⟨hw, by unfold vx_no; rw [decide_eq_true e1, decide_eq_true e2, decide_eq_true e3, decide_eq_true e4]; rfl⟩)
/-- where a static field lies, its class's statics cell in H -/
def vx_L (C n d : String) (A : Nat → Prop) (U : State) (H : Heap) : Prop := ∃ (c : ClassId) (k : Class) (i : Nat) (f : Field) (a : Nat) (cell : Cell), U.vm.findClass C = some c ∧ U.fieldFound? C n d = some (c, k, i, f) ∧ f.isStatic = true ∧ k.statics = some a ∧ H[a]? = some cell ∧ cell.vm.isStatics = true ∧ cell.cls = c ∧ f.slot < cell.slots.size ∧ k.staticTypes[f.slot]? = some f.type ∧ ¬ A a
theorem vx_L.moved {C n d : String} {A : Nat → Prop} {u U : State} {H : Heap} (hvm : u.vm.Alike U.vm) (h : vx_L C n d A u H) : vx_L C n d A U H := by
  obtain ⟨c, k, i, f, a, cell, h1, h2, h3, h4, h5, h6, h7, h8, h9, h10⟩ := h
  obtain ⟨k', hi', he⟩ := State.fieldFound?_setVm hvm h2
  exact ⟨c, k', i, f, a, cell, by rw [hvm.findClass]; exact h1, hi', h3, by rw [he]; exact h4, h5, h6, h7, h8, by rw [he]; exact h9, h10⟩
theorem vx_L.kept {C n d : String} {A : Nat → Prop} {U : State} {H H1 : Heap} (h : vx_L C n d A U H) (hq : ∀ a : Nat, a < H.size → ¬ A a → H1[a]? = H[a]?) : vx_L C n d A U H1 := by
  obtain ⟨c, k, i, f, a, cell, h1, h2, h3, h4, h5, h6, h7, h8, h9, h10⟩ := h
  exact ⟨c, k, i, f, a, cell, h1, h2, h3, h4, by rw [hq a (Array.getElem?_eq_some_iff.mp h5).1 h10]; exact h5, h6, h7, h8, h9, h10⟩
theorem vx_L.narrow {C n d : String} {A B : Nat → Prop} {U : State} {H : Heap} (h : vx_L C n d A U H) (hAB : ∀ q, B q → A q) : vx_L C n d B U H := by
  obtain ⟨c, k, i, f, a, cell, h1, h2, h3, h4, h5, h6, h7, h8, h9, h10⟩ := h
  exact ⟨c, k, i, f, a, cell, h1, h2, h3, h4, h5, h6, h7, h8, h9, fun z => h10 (hAB _ z)⟩
theorem vx_L.word {C n d : String} {A : Nat → Prop} {s : State} {args : Array Value} (h : vx_L C n d A s s.heap) : (Cond.laysStatic C n d).before args s = true := by
  obtain ⟨c, k, i, f, a, cell, h1, h2, h3, h4, h5, h6, h7, h8, h9, -⟩ := h
  show (Cond.laysStatic C n d).holds args s none s [] = true
  exact Cond.laysStatic_of h1 h2 h3 h4 h5 h6 h7 h8 h9
/-- .. and what it holds: null or some reference -/
def vx_Zq (C n d : String) (A : Nat → Prop) (U : State) (H : Heap) : Prop := va_Zq C n d A U H ∧ vx_L C n d A U H
theorem vx_Zq.moved {C n d : String} {A : Nat → Prop} {u U : State} {H : Heap} (hvm : u.vm.Alike U.vm) (h : vx_Zq C n d A u H) : vx_Zq C n d A U H := ⟨va_Zq.moved hvm h.1, vx_L.moved hvm h.2⟩
theorem vx_Zq.kept {C n d : String} {A : Nat → Prop} {U : State} {H H1 : Heap} (h : vx_Zq C n d A U H) (hq : ∀ a : Nat, a < H.size → ¬ A a → H1[a]? = H[a]?) : vx_Zq C n d A U H1 := ⟨va_Zq.kept h.1 hq, vx_L.kept h.2 hq⟩
theorem vx_Zq.narrow {C n d : String} {A B : Nat → Prop} {U : State} {H : Heap} (h : vx_Zq C n d A U H) (hAB : ∀ q, B q → A q) : vx_Zq C n d B U H := ⟨va_Zq.narrow h.1 hAB, vx_L.narrow h.2 hAB⟩
theorem vx_Zqof {args : Array Value} {s : State} {C n d : String} {A : Nat → Prop} (hl : (Cond.laysStatic C n d).before args s = true) (hini : (Cond.initialized C).before args s = true) (h : (Cond.isRef (.static C n d)).before args s = true) (hA : ∀ a : Nat, a < s.heap.size → ¬ A a) : vx_Zq C n d A s s.heap := by
  refine ⟨va_Zqof hl hini h hA, ?_⟩
  obtain ⟨c, k, i, f, a, cell, h1, h2, h3, h4, h5, h6, h7, h8, h9⟩ := Cond.laysStatic_spec hl
  exact ⟨c, k, i, f, a, cell, h1, h2, h3, h4, h5, h6, h7, h8, h9, hA a (Array.getElem?_eq_some_iff.mp h5).1⟩
theorem vx_isRef {C n d : String} {v : Value} {A : Nat → Prop} {s : State} {args : Array Value} (h : va_Z C n d v A s s.heap) (hv : v.isRef = true) : (Cond.isRef (.static C n d)).before args s = true := by
  obtain ⟨cf, kf, fi, f, a, cell, h1, h2, h3, h4, h5, h6, h7, -⟩ := h
  have he : (Term.static C n d).eval args s none [] s = some v := by
    simp [Term.eval, State.fieldNamed?, h1, h2, h4, h5, h6, h7]
  simp only [Cond.before, Cond.holds, Cond.value, he]
  cases v <;> simp_all [Value.isRef]
theorem vx_isRefq {C n d : String} {A : Nat → Prop} {s : State} {args : Array Value} (h : va_Zq C n d A s s.heap) : (Cond.isRef (.static C n d)).before args s = true := by
  rcases h with h | ⟨t, h⟩
  · exact vx_isRef h rfl
  · exact vx_isRef h rfl
/-- the same frame, seen from here: as if the method were called anew in this heap -/
theorem vx_rebase {T : State} (X : Stand p l e R s m args below meth c T locs cells slots) {R' : Room} (hf : R'.frames ≤ R.frames) (hl : R'.locals ≤ R.locals) (hc : cells + R'.cells ≤ R.cells) (hs : slots + R'.slots ≤ R.slots) :
    Stand p l e R' ((T.setVm s.vm).setFrames (.invoking m args :: below)) m args below meth c T [] 0 0 := by
  have htop : (T.setVm s.vm).topJava?.isSome := X.here.top
  have hF : ((T.setVm s.vm).setFrames (.invoking m args :: below)).frames = .invoking m args :: below := State.frames_setFrames _ (State.cur_lt_of_top htop)
  obtain ⟨g₀, hg0⟩ := Option.isSome_iff_exists.mp htop
  obtain ⟨r, hr⟩ := State.topJava?_eq_some.mp hg0
  have hl9 : e.platform.stackLimits (T.setVm s.vm).me = e.platform.stackLimits s.me := X.limits
  have hb9 : (T.setVm s.vm).me.stackBytes = s.me.stackBytes := X.bytes
  refine ⟨X.admits, X.cas, X.clock, hF, ?_, X.hears, X.method, X.code, X.here, X.tail, X.warmed, ?_, ?_, ?_⟩
  · have h := X.room
    have hU : ((T.setVm s.vm).setFrames (.invoking m args :: below)).localsInUse = s.localsInUse := by
      rw [State.localsInUse_invoking hF (meth := meth) (c := c) X.method X.code, State.localsInUse_invoking X.frames X.method X.code]
    simp only [State.hasRoom, Bool.and_eq_true, decide_eq_true_eq] at h ⊢
    obtain ⟨⟨⟨⟨h1, h2, h3, h4, h5, h6⟩, h7⟩, h8⟩, h9⟩ := h
    rw [X.frames, List.length_cons] at h2 h3
    have q1 := X.heapSize
    have q2 := X.used
    simp only [hF, hU, List.length_cons, State.stackLimits_setFrames, State.stackBytes_setFrames, hl9, hb9]
    refine ⟨⟨⟨⟨by omega, by omega, by omega, by omega, by omega, h6⟩, ?_⟩, ?_⟩, X.book⟩
    · show T.heap.size + R'.cells ≤ e.platform.maxCells
      omega
    · show T.slotsUsed + R'.slots ≤ e.platform.maxSlots
      omega
  · rw [State.stackLimits_setFrames]; rfl
  · rw [State.stackBytes_setFrames]; rfl
  · refine ⟨?_, Nat.le_refl _, Nat.le_refl _, ?_, ?_, fun a c9 h9 => ⟨c9, h9, rfl, rfl, fun _ _ => rfl⟩⟩
    · obtain ⟨t, ht, -⟩ := State.frames_cons hr
      show T.setVm s.vm = { ((T.setVm s.vm).setFrames (.invoking m args :: below)).setFrames (T.setVm s.vm).frames with heap := T.heap, slotsUsed := T.slotsUsed }
      rw [State.setFrames_setFrames, State.setFrames_self ht]
      rfl
    · show T.slotsUsed = T.slotsUsed + ((T.heap.toList.drop T.heap.size).map (·.slots.size)).sum
      rw [List.drop_eq_nil_of_le (Nat.le_of_eq Array.length_toList)]
      rfl
    · show ((T.heap.toList.drop T.heap.size).map (·.slots.size)).sum ≤ 0
      rw [List.drop_eq_nil_of_le (Nat.le_of_eq Array.length_toList)]
      exact Nat.le_refl _
/-- 'throw new E()': new; dup; invokespecial; athrow -/
theorem vx_throw0 {cc : ByteArray} {pc : Nat} (hexec : p.tables.exec = Jvm.exec) (hb : c.code = cc) (hl : l.stackTraces = false) {own cls : String} {names : List String} {ik ic mc ms : Nat} {A : Nat → Prop}
    (hown : s.vm.findClass own = some m.cls) (hcls : Bundle.fit cls = true) (hnames : ∀ n ∈ names, Bundle.fit n = true)
    (hk : (Cond.classLink own ik cls).before args s = true) (hini : (Cond.initialized cls).before args s = true) (hat : ∀ w ∈ vx_at0 own ic cls names, w.before args s = true)
    (hgood : ∀ w ∈ Cond.classLink own ik cls :: Cond.initialized cls :: vx_at0 own ic cls names, vx_ot w = true)
    (hU : vx_Zq Bundle.tN "UNASSIGNED_STACK" Bundle.steD A s s.heap) (hN : vx_Zq Bundle.tN "SUPPRESSED_SENTINEL" Bundle.listD A s s.heap) (hS : va_S A s.heap H locs) (hsize : ls.size = c.maxLocals)
    (d0 : decode cc pc = .ok (.new ik, 3)) (d3 : decode cc (pc + 3) = .ok (.dup, 1)) (d4 : decode cc (pc + 4) = .ok (.invokespecial ic, 3)) (d7 : decode cc (pc + 7) = .ok (.athrow, 1))
    (hout : ∀ x ∈ c.exceptionTable.toList, covers x (pc + 7) = false)
    (hRframes : names.length + 3 < R.frames) (hRlocals : (rest.map fun v => v.category).sum + (13 * (names.length + 1) + 42) ≤ R.locals) (hRcells : cells + 1 ≤ R.cells) (hRslots : slots + 6 ≤ R.slots) (hlocks : meth.locks = false)
    (hx : ∀ t : State, s.vm.Alike t.vm → H.size ≤ t.heap.size → (∀ q : Nat, q < H.size → t.heap[q]? = H[q]?) → XC cls s t)
    (hf : ∀ z ∈ locs, free z.base) (hc : cells + 1 ≤ mc) (hs : slots + 6 ≤ ms) :
    W p l e R s m args below meth c H locs cells slots (vx_MQ below Qc XC args s mc ms free) (F0 m pc ls rest) := by
  intro T hT X
  have htr : e.platform.stackTraces = false := (show e.platform.stackTraces = l.stackTraces by rw [X.admits.platform]).trans hl
  have Y := vx_rebase X (R' := { frames := R.frames, locals := R.locals, cells := 1, slots := 6 }) (Nat.le_refl _) (Nat.le_refl _) hRcells hRslots
  obtain ⟨s', hA⟩ : ∃ z, z = (T.setVm s.vm).setFrames (.invoking m args :: below) := ⟨_, rfl⟩
  rw [← hA] at Y
  have hvm : s'.vm = s.vm := by rw [hA]; rfl
  have hhp : s'.heap = H := by rw [hA]; exact hT
  have hW0 : s.WarmedH s'.vm := by rw [hvm]; exact State.WarmedH.refl s
  have hat' : ∀ w ∈ vx_at0 own ic cls names, w.before args s' = true := fun w hw => vx_ot_at hW0 hvm.symm (hgood w (List.mem_cons_of_mem _ (List.mem_cons_of_mem _ hw))) (hat w hw)
  have hk' : (Cond.classLink own ik cls).before args s' = true := vx_ot_at hW0 hvm.symm (hgood _ List.mem_cons_self) hk
  have hini' : (Cond.initialized cls).before args s' = true := vx_ot_at hW0 hvm.symm (hgood _ (List.mem_cons_of_mem _ List.mem_cons_self)) hini
  have hU' : vx_Zq Bundle.tN "UNASSIGNED_STACK" Bundle.steD A s' s'.heap := by rw [hhp]; exact vx_Zq.moved hW0.alike (hU.kept hS.2.1)
  have hN' : vx_Zq Bundle.tN "SUPPRESSED_SENTINEL" Bundle.listD A s' s'.heap := by rw [hhp]; exact vx_Zq.moved hW0.alike (hN.kept hS.2.1)
  have h : ∀ w ∈ Bundle.ownAtoms0 own ic cls names, w.before args s' = true := vx_own hat' (vx_isRefq hU'.1) (vx_isRefq hN'.1) hU'.2.word hN'.2.word
  have hown' : s'.vm.findClass own = some m.cls := by rw [hvm]; exact hown
  have hins : (Cond.instantiable cls 6).before args s' = true := h _ (by simp [Bundle.ownAtoms0])
  obtain ⟨vm₁, cX, kX, hfX, hkX, -, -, X₁, st1⟩ := Y.newCold hexec (own := own) (C := cls) (index := ik) (n := 6) hown' hk' hins hini'
    (g := F0 m pc ls rest) rfl (by rw [hb]; exact d0) (Nat.le_refl _) (Nat.le_refl _)
  generalize hT1 : (T.setVm vm₁).pushCell { cls := cX, slots := kX.instanceTypes.map defaultValue, vm := .none } = T1 at X₁ st1
  have hcat : (Value.ref T.heap.size).category = 1 := rfl
  have hcellA : T1.heap[T.heap.size]? = some (freshCell cX kX) := by rw [← hT1]; exact State.heap_pushCell_size _ _
  have d3' : decode c.code (pc + 3) = .ok (.dup, 1) := by rw [hb]; exact d3
  obtain ⟨U, hsteps, hrun, hend, hW, hsame, ce, hce, hO⟩ := X₁.ctorThrow0 hexec htr (own := own) (cls := cls) (names := names) (ic := ic) hown' hcls hnames h (fun x hx => nomatch hx) hfX hkX hcellA (by rw [hhp, hT]; exact Nat.le_refl _)
    (g := { method := m, pc := pc + 4, locals := ls, stack := .ref T.heap.size :: .ref T.heap.size :: rest, locked := none }) rfl hsize rfl rfl (rest := rest) rfl
    (by rw [hb]; exact d4) (by rw [hb]; exact d7) hout hRframes (by simp only [List.map_cons, List.sum_cons, hcat]; omega) hlocks
  obtain ⟨f1, f2⟩ := vx_frame hsame
  rw [hhp] at f1 f2
  have hWs : s.WarmedH U.vm := State.WarmedH.trans hW0 hW
  have hcl : s.vm.findClass cls = some ce.cls := by
    have h9 := hO.cls
    rw [hvm] at h9
    exact h9
  have hall : s.sameButNew ({ U with vm := s.vm } : State) locs mc ms := by
    subst hA
    obtain ⟨e1, e2⟩ := hsame
    rw [State.setFrames_setFrames] at e1
    have h2 : (T.setVm s.vm).sameButNew ({ U with vm := s.vm } : State) [] (0 + 1) (0 + 6) := ⟨e1, e2⟩
    have h3 := X.same.trans h2
    rw [List.append_nil] at h3
    exact h3.mono hc hs
  refine ⟨U, ?_, .threw T.heap.size, hrun, hend, Or.inr ⟨T.heap.size, rfl, cls, ce, locs, hx U hWs.alike f1 (fun q hq => f2 q hq (fun z hz => nomatch hz)), hce, hO.vm, hcl, hWs, hall, hf⟩⟩
  refine st1 _ ?_
  show Steps p.tables e below (T1.setTop { method := m, pc := pc + 3, locals := ls, stack := .ref T.heap.size :: rest, locked := none }) _
  jvm_step X₁.here [X₁.here.top, hexec, d3', Value.category]
  exact hsteps
/-- 'throw new E("text")': new; dup; ldc; invokespecial; athrow -/
theorem vx_throwS {cc : ByteArray} {pc : Nat} (hexec : p.tables.exec = Jvm.exec) (hb : c.code = cc) (hl : l.stackTraces = false) {own cls text : String} {names : List String} {ik is ic mc ms sa : Nat} {A : Nat → Prop}
    (hown : s.vm.findClass own = some m.cls) (hcls : Bundle.fit cls = true) (hnames : ∀ n ∈ names, Bundle.fit n = true)
    (hk : (Cond.classLink own ik cls).before args s = true) (hini : (Cond.initialized cls).before args s = true) (hstr : vk_R own is text sa s) (hat : ∀ w ∈ vx_atS own ic cls names, w.before args s = true)
    (hgood : ∀ w ∈ Cond.classLink own ik cls :: Cond.initialized cls :: vx_atS own ic cls names, vx_ot w = true)
    (hU : vx_Zq Bundle.tN "UNASSIGNED_STACK" Bundle.steD A s s.heap) (hN : vx_Zq Bundle.tN "SUPPRESSED_SENTINEL" Bundle.listD A s s.heap) (hS : va_S A s.heap H locs) (hsize : ls.size = c.maxLocals)
    (d0 : decode cc pc = .ok (.new ik, 3)) (d3 : decode cc (pc + 3) = .ok (.dup, 1)) (d4 : decode cc (pc + 4) = .ok (.ldc is, 2)) (d6 : decode cc (pc + 6) = .ok (.invokespecial ic, 3)) (d9 : decode cc (pc + 9) = .ok (.athrow, 1))
    (hout : ∀ x ∈ c.exceptionTable.toList, covers x (pc + 9) = false)
    (hRframes : names.length + 3 < R.frames) (hRlocals : (rest.map fun v => v.category).sum + (13 * (names.length + 1) + 43) ≤ R.locals) (hRcells : cells + 1 ≤ R.cells) (hRslots : slots + 6 ≤ R.slots) (hlocks : meth.locks = false)
    (hx : ∀ t : State, s.vm.Alike t.vm → H.size ≤ t.heap.size → (∀ q : Nat, q < H.size → t.heap[q]? = H[q]?) → XC cls s t)
    (hf : ∀ z ∈ locs, free z.base) (hc : cells + 1 ≤ mc) (hs : slots + 6 ≤ ms) :
    W p l e R s m args below meth c H locs cells slots (vx_MQ below Qc XC args s mc ms free) (F0 m pc ls rest) := by
  intro T hT X
  have htr : e.platform.stackTraces = false := (show e.platform.stackTraces = l.stackTraces by rw [X.admits.platform]).trans hl
  have Y := vx_rebase X (R' := { frames := R.frames, locals := R.locals, cells := 1, slots := 6 }) (Nat.le_refl _) (Nat.le_refl _) hRcells hRslots
  obtain ⟨s', hA⟩ : ∃ z, z = (T.setVm s.vm).setFrames (.invoking m args :: below) := ⟨_, rfl⟩
  rw [← hA] at Y
  have hvm : s'.vm = s.vm := by rw [hA]; rfl
  have hhp : s'.heap = H := by rw [hA]; exact hT
  have hW0 : s.WarmedH s'.vm := by rw [hvm]; exact State.WarmedH.refl s
  have hat' : ∀ w ∈ vx_atS own ic cls names, w.before args s' = true := fun w hw => vx_ot_at hW0 hvm.symm (hgood w (List.mem_cons_of_mem _ (List.mem_cons_of_mem _ hw))) (hat w hw)
  have hk' : (Cond.classLink own ik cls).before args s' = true := vx_ot_at hW0 hvm.symm (hgood _ List.mem_cons_self) hk
  have hini' : (Cond.initialized cls).before args s' = true := vx_ot_at hW0 hvm.symm (hgood _ (List.mem_cons_of_mem _ List.mem_cons_self)) hini
  have hU' : vx_Zq Bundle.tN "UNASSIGNED_STACK" Bundle.steD A s' s'.heap := by rw [hhp]; exact vx_Zq.moved hW0.alike (hU.kept hS.2.1)
  have hN' : vx_Zq Bundle.tN "SUPPRESSED_SENTINEL" Bundle.listD A s' s'.heap := by rw [hhp]; exact vx_Zq.moved hW0.alike (hN.kept hS.2.1)
  have h : ∀ w ∈ Bundle.ownAtoms own ic cls names, w.before args s' = true := vx_own hat' (vx_isRefq hU'.1) (vx_isRefq hN'.1) hU'.2.word hN'.2.word
  have hown' : s'.vm.findClass own = some m.cls := by rw [hvm]; exact hown
  have hins : (Cond.instantiable cls 6).before args s' = true := h _ (by simp [Bundle.ownAtoms])
  obtain ⟨vm₁, cX, kX, hfX, hkX, -, -, X₁, st1⟩ := Y.newCold hexec (own := own) (C := cls) (index := ik) (n := 6) hown' hk' hins hini'
    (g := F0 m pc ls rest) rfl (by rw [hb]; exact d0) (Nat.le_refl _) (Nat.le_refl _)
  generalize hT1 : (T.setVm vm₁).pushCell { cls := cX, slots := kX.instanceTypes.map defaultValue, vm := .none } = T1 at X₁ st1
  have hcat : (Value.ref T.heap.size).category = 1 := rfl
  have hcellA : T1.heap[T.heap.size]? = some (freshCell cX kX) := by rw [← hT1]; exact State.heap_pushCell_size _ _
  have d3' : decode c.code (pc + 3) = .ok (.dup, 1) := by rw [hb]; exact d3
  have d4' : decode c.code (pc + 4) = .ok (.ldc is, 2) := by rw [hb]; exact d4
  have hstr' : vk_R own is text sa s' := vk_R.warm hW0 hstr
  obtain ⟨U, hsteps, hrun, hend, hW, hsame, ce, hce, hO⟩ := X₁.ctorThrowS hexec htr (own := own) (cls := cls) (names := names) (ic := ic) hown' hcls hnames h (fun x hx => nomatch hx) hfX hkX hcellA (by rw [hhp, hT]; exact Nat.le_refl _) (msg := .ref sa) rfl
    (g := { method := m, pc := pc + 6, locals := ls, stack := .ref sa :: .ref T.heap.size :: .ref T.heap.size :: rest, locked := none }) rfl hsize rfl rfl (rest := rest) rfl
    (by rw [hb]; exact d6) (by rw [hb]; exact d9) hout hRframes (by simp only [List.map_cons, List.sum_cons, hcat]; omega) hlocks
  obtain ⟨f1, f2⟩ := vx_frame hsame
  rw [hhp] at f1 f2
  have hWs : s.WarmedH U.vm := State.WarmedH.trans hW0 hW
  have hcl : s.vm.findClass cls = some ce.cls := by
    have h9 := hO.cls
    rw [hvm] at h9
    exact h9
  have hall : s.sameButNew ({ U with vm := s.vm } : State) locs mc ms := by
    subst hA
    obtain ⟨e1, e2⟩ := hsame
    rw [State.setFrames_setFrames] at e1
    have h2 : (T.setVm s.vm).sameButNew ({ U with vm := s.vm } : State) [] (0 + 1) (0 + 6) := ⟨e1, e2⟩
    have h3 := X.same.trans h2
    rw [List.append_nil] at h3
    exact h3.mono hc hs
  refine ⟨U, ?_, .threw T.heap.size, hrun, hend, Or.inr ⟨T.heap.size, rfl, cls, ce, locs, hx U hWs.alike f1 (fun q hq => f2 q hq (fun z hz => nomatch hz)), hce, hO.vm, hcl, hWs, hall, hf⟩⟩
  refine st1 _ ?_
  show Steps p.tables e below (T1.setTop { method := m, pc := pc + 3, locals := ls, stack := .ref T.heap.size :: rest, locked := none }) _
  jvm_step X₁.here [X₁.here.top, hexec, d3', Value.category]
  exact X₁.ldcString hexec (own := own) (text := text) (index := is) (a := sa) hown' hstr'.1 hstr'.2
    (g := { method := m, pc := pc + 4, locals := ls, stack := .ref T.heap.size :: .ref T.heap.size :: rest, locked := none }) rfl d4' _ hsteps
/-- 'throw new E("text")', the text by a wide index -/
theorem vx_throwSW {cc : ByteArray} {pc : Nat} (hexec : p.tables.exec = Jvm.exec) (hb : c.code = cc) (hl : l.stackTraces = false) {own cls text : String} {names : List String} {ik is ic mc ms sa : Nat} {A : Nat → Prop}
    (hown : s.vm.findClass own = some m.cls) (hcls : Bundle.fit cls = true) (hnames : ∀ n ∈ names, Bundle.fit n = true)
    (hk : (Cond.classLink own ik cls).before args s = true) (hini : (Cond.initialized cls).before args s = true) (hstr : vk_R own is text sa s) (hat : ∀ w ∈ vx_atS own ic cls names, w.before args s = true)
    (hgood : ∀ w ∈ Cond.classLink own ik cls :: Cond.initialized cls :: vx_atS own ic cls names, vx_ot w = true)
    (hU : vx_Zq Bundle.tN "UNASSIGNED_STACK" Bundle.steD A s s.heap) (hN : vx_Zq Bundle.tN "SUPPRESSED_SENTINEL" Bundle.listD A s s.heap) (hS : va_S A s.heap H locs) (hsize : ls.size = c.maxLocals)
    (d0 : decode cc pc = .ok (.new ik, 3)) (d3 : decode cc (pc + 3) = .ok (.dup, 1)) (d4 : decode cc (pc + 4) = .ok (.ldc_w is, 3)) (d7 : decode cc (pc + 7) = .ok (.invokespecial ic, 3)) (d10 : decode cc (pc + 10) = .ok (.athrow, 1))
    (hout : ∀ x ∈ c.exceptionTable.toList, covers x (pc + 10) = false)
    (hRframes : names.length + 3 < R.frames) (hRlocals : (rest.map fun v => v.category).sum + (13 * (names.length + 1) + 43) ≤ R.locals) (hRcells : cells + 1 ≤ R.cells) (hRslots : slots + 6 ≤ R.slots) (hlocks : meth.locks = false)
    (hx : ∀ t : State, s.vm.Alike t.vm → H.size ≤ t.heap.size → (∀ q : Nat, q < H.size → t.heap[q]? = H[q]?) → XC cls s t)
    (hf : ∀ z ∈ locs, free z.base) (hc : cells + 1 ≤ mc) (hs : slots + 6 ≤ ms) :
    W p l e R s m args below meth c H locs cells slots (vx_MQ below Qc XC args s mc ms free) (F0 m pc ls rest) := by
  intro T hT X
  have htr : e.platform.stackTraces = false := (show e.platform.stackTraces = l.stackTraces by rw [X.admits.platform]).trans hl
  have Y := vx_rebase X (R' := { frames := R.frames, locals := R.locals, cells := 1, slots := 6 }) (Nat.le_refl _) (Nat.le_refl _) hRcells hRslots
  obtain ⟨s', hA⟩ : ∃ z, z = (T.setVm s.vm).setFrames (.invoking m args :: below) := ⟨_, rfl⟩
  rw [← hA] at Y
  have hvm : s'.vm = s.vm := by rw [hA]; rfl
  have hhp : s'.heap = H := by rw [hA]; exact hT
  have hW0 : s.WarmedH s'.vm := by rw [hvm]; exact State.WarmedH.refl s
  have hat' : ∀ w ∈ vx_atS own ic cls names, w.before args s' = true := fun w hw => vx_ot_at hW0 hvm.symm (hgood w (List.mem_cons_of_mem _ (List.mem_cons_of_mem _ hw))) (hat w hw)
  have hk' : (Cond.classLink own ik cls).before args s' = true := vx_ot_at hW0 hvm.symm (hgood _ List.mem_cons_self) hk
  have hini' : (Cond.initialized cls).before args s' = true := vx_ot_at hW0 hvm.symm (hgood _ (List.mem_cons_of_mem _ List.mem_cons_self)) hini
  have hU' : vx_Zq Bundle.tN "UNASSIGNED_STACK" Bundle.steD A s' s'.heap := by rw [hhp]; exact vx_Zq.moved hW0.alike (hU.kept hS.2.1)
  have hN' : vx_Zq Bundle.tN "SUPPRESSED_SENTINEL" Bundle.listD A s' s'.heap := by rw [hhp]; exact vx_Zq.moved hW0.alike (hN.kept hS.2.1)
  have h : ∀ w ∈ Bundle.ownAtoms own ic cls names, w.before args s' = true := vx_own hat' (vx_isRefq hU'.1) (vx_isRefq hN'.1) hU'.2.word hN'.2.word
  have hown' : s'.vm.findClass own = some m.cls := by rw [hvm]; exact hown
  have hins : (Cond.instantiable cls 6).before args s' = true := h _ (by simp [Bundle.ownAtoms])
  obtain ⟨vm₁, cX, kX, hfX, hkX, -, -, X₁, st1⟩ := Y.newCold hexec (own := own) (C := cls) (index := ik) (n := 6) hown' hk' hins hini'
    (g := F0 m pc ls rest) rfl (by rw [hb]; exact d0) (Nat.le_refl _) (Nat.le_refl _)
  generalize hT1 : (T.setVm vm₁).pushCell { cls := cX, slots := kX.instanceTypes.map defaultValue, vm := .none } = T1 at X₁ st1
  have hcat : (Value.ref T.heap.size).category = 1 := rfl
  have hcellA : T1.heap[T.heap.size]? = some (freshCell cX kX) := by rw [← hT1]; exact State.heap_pushCell_size _ _
  have d3' : decode c.code (pc + 3) = .ok (.dup, 1) := by rw [hb]; exact d3
  have d4' : decode c.code (pc + 4) = .ok (.ldc_w is, 3) := by rw [hb]; exact d4
  have hstr' : vk_R own is text sa s' := vk_R.warm hW0 hstr
  obtain ⟨U, hsteps, hrun, hend, hW, hsame, ce, hce, hO⟩ := X₁.ctorThrowS hexec htr (own := own) (cls := cls) (names := names) (ic := ic) hown' hcls hnames h (fun x hx => nomatch hx) hfX hkX hcellA (by rw [hhp, hT]; exact Nat.le_refl _) (msg := .ref sa) rfl
    (g := { method := m, pc := pc + 7, locals := ls, stack := .ref sa :: .ref T.heap.size :: .ref T.heap.size :: rest, locked := none }) rfl hsize rfl rfl (rest := rest) rfl
    (by rw [hb]; exact d7) (by rw [hb]; exact d10) hout hRframes (by simp only [List.map_cons, List.sum_cons, hcat]; omega) hlocks
  obtain ⟨f1, f2⟩ := vx_frame hsame
  rw [hhp] at f1 f2
  have hWs : s.WarmedH U.vm := State.WarmedH.trans hW0 hW
  have hcl : s.vm.findClass cls = some ce.cls := by
    have h9 := hO.cls
    rw [hvm] at h9
    exact h9
  have hall : s.sameButNew ({ U with vm := s.vm } : State) locs mc ms := by
    subst hA
    obtain ⟨e1, e2⟩ := hsame
    rw [State.setFrames_setFrames] at e1
    have h2 : (T.setVm s.vm).sameButNew ({ U with vm := s.vm } : State) [] (0 + 1) (0 + 6) := ⟨e1, e2⟩
    have h3 := X.same.trans h2
    rw [List.append_nil] at h3
    exact h3.mono hc hs
  refine ⟨U, ?_, .threw T.heap.size, hrun, hend, Or.inr ⟨T.heap.size, rfl, cls, ce, locs, hx U hWs.alike f1 (fun q hq => f2 q hq (fun z hz => nomatch hz)), hce, hO.vm, hcl, hWs, hall, hf⟩⟩
  refine st1 _ ?_
  show Steps p.tables e below (T1.setTop { method := m, pc := pc + 3, locals := ls, stack := .ref T.heap.size :: rest, locked := none }) _
  jvm_step X₁.here [X₁.here.top, hexec, d3', Value.category]
  exact X₁.ldcStringW hexec (own := own) (text := text) (index := is) (a := sa) hown' hstr'.1 hstr'.2
    (g := { method := m, pc := pc + 4, locals := ls, stack := .ref T.heap.size :: .ref T.heap.size :: rest, locked := none }) rfl d4' _ hsteps
end Ends
section Bodies
variable {l : Launch}
theorem vx_ofW {y : MethodName} {ws ws' : List Cond} {rm : Room} {Pc : Array Value → State → Prop} {Qc : Array Value → State → Outcome → State → Prop} {XC : String → State → State → Prop} {mc ms : Nat} {free : Addr → Prop} {cc : ByteArray} {maxL : Nat} {ret : Option FieldType}
    (hy : plainName y.cls = true) (hw : ws = Cond.code y cc maxL ret :: ws')
    (body : ∀ p e s m args below meth c s₁, BodyLoose p l y (headSpec ws rm) cc maxL ret e s m args below meth c s₁ → c.maxLocals = maxL → (∀ x ∈ c.exceptionTable.toList, False) → Pc args s →
      W p l e (headSpec ws rm).room s m args below meth c s.heap [] 0 0 (vx_MQ below Qc XC args s mc ms free) (entryFrame m args maxL)) : vx_Met l y ws rm Pc Qc XC mc ms free := by
  refine MetFree.of_bodyS (code := cc) (maxLocals := maxL) (ret := ret) hy ?_ ?_
  · intro args s m h hn
    obtain ⟨meth, c, h1, h2, h3, h4, h5, h6, -, -⟩ := Cond.code_spec hn (atoms_spec (ws := ws) h _ (by rw [hw]; exact List.mem_cons_self))
    exact ⟨meth, c, h1, h2, h3, h4, h5, h6⟩
  · intro p e s m args below meth c s₁ B hml hP _
    have hh0 : s₁.heap = s.heap := by rw [B.state]; rfl
    have ht : ∀ x ∈ c.exceptionTable.toList, False := by
      obtain ⟨meth9, c9, h1, h2, -, -, -, -, h7, -⟩ := Cond.code_spec B.named (atoms_spec (ws := ws) B.pre _ (by rw [hw]; exact List.mem_cons_self))
      cases Option.some.inj (h1.symm.trans B.method)
      cases Option.some.inj (h2.symm.trans (Stand.of_body B).code)
      intro x hx
      rw [Array.isEmpty_iff.mp h7] at hx
      cases hx
    obtain ⟨t, a1, o, b1, b2, b3⟩ := body p e s m args below meth c s₁ B hml ht hP s₁ hh0 (Stand.of_body B)
    exact ⟨t, o, a1, b1, b2, b3⟩
/-- the table of a body with handlers -/
theorem vx_table {p : Program} {x y : MethodName} {S : Spec} {cc bytes : ByteArray} {maxL maxL' : Nat} {ret ret' : Option FieldType} {e : Env} {s s₁ : State} {m : MethodId} {args : Array Value} {below : List Frame} {meth : Method} {c : Code} {hh : List (Nat × Nat × Nat × Nat)}
    (B : BodyLoose p l y S cc maxL ret e s m args below meth c s₁) (h : (Cond.codeWith y bytes maxL' ret' hh).before args s = true) : c.exceptionTable.toList = tableOf hh := by
  obtain ⟨m9, meth9, c9, hn9, h1, h2, -, -, h6, -⟩ := Cond.codeWith_spec h
  cases Option.some.inj (hn9.symm.trans B.named)
  cases Option.some.inj (h1.symm.trans B.method)
  cases Option.some.inj (h2.symm.trans (Stand.of_body B).code)
  rw [← h6, table_eq]
end Bodies
end VXA
/-! ===== END ===== -/
/-! ===== BEGIN a static call of a method with an exception table ===== -/
section VXS
variable {p : Program} {l : Launch} {e : Env} {R : Room} {s : State} {m : MethodId} {args : Array Value} {below : List Frame} {meth : Method} {c : Code} {T : State} {H : Heap} {locs : List Loc} {cells slots : Nat}
abbrev vx_CSW (R : Room) (s : State) (args : Array Value) (own : String) (index : Nat) (y : MethodName) (bytes : ByteArray) (maxL : Nat) (ret : Option FieldType) (hh : List (Nat × Nat × Nat × Nat)) (ws : List Cond) (rm : Room) (mc ms n : Nat) : Prop :=
  (rm.cells = mc ∧ rm.slots = ms ∧ rm.frames + 1 ≤ R.frames ∧ 8 + (maxL + 11) + rm.locals ≤ R.locals ∧ (∀ w ∈ ws, ∀ (a' : Array Value) (U : State), s.WarmedH U.vm → w.before a' U = true) ∧ Cond.codeWith y bytes maxL ret hh ∈ ws) ∧
  (Cond.codeWith y bytes maxL ret hh).before args s = true ∧ (Cond.initialized y.cls).before args s = true ∧ (y.cls ≠ "java/lang/invoke/MethodHandle" ∧ y.cls ≠ "java/lang/invoke/VarHandle") ∧
  (∀ sig, parseMethodDescriptor y.desc = some sig → n = sig.parameters.length) ∧ (Cond.methodLink own index y).before args s = true ∧ (Cond.static y).before args s = true
theorem vx_cwSW {own : String} {index maxL mc ms : Nat} {y : MethodName} {bytes : ByteArray} {ret : Option FieldType} {hh : List (Nat × Nat × Nat × Nat)} {Ts ws ws' : List Cond} {rm : Room} (n : Nat) (ht : ∀ w ∈ Ts, w.before args s = true) (hT : GoodIn Ts (va_wsS own index y ws)) (hw : ws = Cond.codeWith y bytes maxL ret hh :: ws') (hrc : rm.cells = mc) (hrs : rm.slots = ms)
    (hd : y.cls ≠ "java/lang/invoke/MethodHandle" ∧ y.cls ≠ "java/lang/invoke/VarHandle" ∧ (parseMethodDescriptor y.desc).map (fun d => d.parameters.length) = some n) (hR : rm.frames + 1 ≤ R.frames ∧ 8 + (maxL + 11) + rm.locals ≤ R.locals) :
    vx_CSW R s args own index y bytes maxL ret hh ws rm mc ms n := by
  have ok : ∀ w ∈ va_wsS own index y ws, w.before args s = true := fun w h => ht w (hT w h).1
  have hG : GoodIn Ts ws := fun w h => hT w (by unfold va_wsS; exact List.mem_append_right _ h)
  have hc : Cond.codeWith y bytes maxL ret hh ∈ ws := by rw [hw]; exact List.mem_cons_self
  refine ⟨⟨hrc, hrs, hR.1, hR.2, pay_in ht hG, hc⟩, ht _ (hG _ hc).1, ok _ (by simp [va_wsS]), ⟨hd.1, hd.2.1⟩, fun sig h => ?_, ok _ (by simp [va_wsS]), ok _ (by simp [va_wsS])⟩
  have h2 := hd.2.2
  rw [h] at h2
  exact (Option.some.inj h2).symm
theorem vx_callSW (X : Stand p l e R s m args below meth c T locs cells slots) (hexec : p.tables.exec = Jvm.exec) {own : String} {index : Nat} {y : MethodName} {bytes : ByteArray} {maxL : Nat} {ret : Option FieldType} {hh : List (Nat × Nat × Nat × Nat)}
    (hown : s.vm.findClass own = some m.cls) (hlink : (Cond.methodLink own index y).before args s = true) (hstat : (Cond.static y).before args s = true) (hinit : (Cond.initialized y.cls).before args s = true)
    (hcode : (Cond.codeWith y bytes maxL ret hh).before args s = true) (hy : y.cls ≠ "java/lang/invoke/MethodHandle" ∧ y.cls ≠ "java/lang/invoke/VarHandle")
    {W9 : Nat} {Pre : Pt → Array Value → Prop} {Post : Pt → Array Value → Option Value → Pt → Prop} (hK : Back l R p e below s args y 3 W9 Pre Post)
    {g : JFrame} (hg : g.method = m) (hsize : g.locals.size = c.maxLocals) {argsL rest : List Value} (hlen : ∀ sig, parseMethodDescriptor y.desc = some sig → argsL.length = sig.parameters.length)
    (hstack : g.stack = argsL.reverse ++ rest) (hW : 2 * g.monitorRoom + (rest.map fun v => v.category).sum ≤ W9) (hdg : decode c.code g.pc = .ok (.invokestatic index, 3))
    (hpre : ∀ vm₁, s.WarmedH vm₁ → Pre ⟨T.setVm vm₁, locs, cells, slots⟩ argsL.toArray) :
    ∃ (v : Option Value) (vm₁ : Vm) (B : Pt), s.WarmedH vm₁ ∧ Stand p l e R s m args below meth c B.U B.locs B.cells B.slots ∧ Post ⟨T.setVm vm₁, locs, cells, slots⟩ argsL.toArray v B ∧
      ∀ target, Steps p.tables e below (B.U.setTop { g with pc := g.pc + 3, stack := v.toList ++ rest }) target → Steps p.tables e below (T.setTop g) target := by
  obtain ⟨mk, methM, cM, hnamed, hmethM, -, -, -, -, -, -, hsigM⟩ := Cond.codeWith_spec hcode
  have hstatic : methM.isStatic = true := Cond.static_spec hnamed hmethM hstat
  obtain ⟨kP, hkP, -⟩ := className_of_methodNamed hnamed
  have hinitP : kP.init = .initialized := Cond.initialized_spec (findClass_of_methodNamed hnamed) hkP hinit
  obtain ⟨vm₁, X₁, hstep₁⟩ := X.invokestatic hexec hown hlink hnamed hmethM hstatic hkP hinitP hy (g := g) hg (argsL := argsL) (rest := rest) (hlen _ hsigM) hstack hdg
  obtain ⟨v, B, X', hpost, hsteps⟩ := hK m meth c ⟨T.setVm vm₁, locs, cells, slots⟩ { g with stack := rest } (.invokestatic index) mk argsL.toArray X₁ hg hsize hdg hW (X₁.named hnamed) (hpre vm₁ X₁.warmed)
  exact ⟨v, vm₁, B, X₁.warmed, X', hpost, fun target h => hstep₁ _ fun acts => by rw [doInvoke_state]; exact hsteps.trans h⟩
theorem vx_runSW {y : MethodName} {bytes cc : ByteArray} {maxL nL mc ms n index : Nat} {ret : Option FieldType} {hh : List (Nat × Nat × Nat × Nat)} {ws : List Cond} {rm : Room} {Pc : Array Value → State → Prop} {Qc : Array Value → State → Outcome → State → Prop} {free : Addr → Prop} {Ts : List Cond} {own : String} {As rest : List Value} {g : JFrame}
    (S : CallFix p m c cc nL s args Ts own) (hM : Met l y ws rm Pc Qc mc ms free) (cw : vx_CSW R s args own index y bytes maxL ret hh ws rm mc ms n) (hp : PreS s H Pc As)
    (hg : g.method = m) (hn : As.length = n) (hsize : g.locals.size = nL) (hstack : g.stack = As.reverse ++ rest) (hW : 2 * g.monitorRoom + (rest.map fun v => v.category).sum ≤ 8) (hdg : decode cc g.pc = .ok (.invokestatic index, 3)) (hf : cells + mc ≤ R.cells ∧ slots + ms ≤ R.slots) :
    va_Run p l e R s m args below meth c H locs cells slots mc ms g rest (Qc As.toArray) (free) := by
  obtain ⟨⟨hrc, hrs, hfr, hlo, hws, hcw⟩, hcode, hini, hy, hlen, hl, hstt⟩ := cw
  have hK : Back l R p e below s args y 3 8 (PreOf R mc ms Pc) (PostOf Qc mc ms free) := va_backW (hh := hh) (bytes := bytes) (maxL := maxL) (ret := ret) hM hp.1 hrc hrs hfr hlo hws hcw (fun a' U hW => word_at hW (Or.inl (by first | rfl | simp [Cond.onTables, Cond.keeps, Cond.steady])) hini)
  obtain ⟨hx, hb, hml, ho, -⟩ := S
  intro T hT X
  obtain ⟨v, vm₁, ⟨U', l2, c2, s2⟩, hW₁, X', ⟨g', mk, t, L, e1, e2, hq, h1, hL, h2, h3⟩, st⟩ := vx_callSW X hx (hh := hh) (bytes := bytes) (maxL := maxL) (ret := ret) ho hl hstt hini hcode hy hK hg (hsize.trans hml.symm) (argsL := As) (rest := rest) (fun sig h => hn.trans (hlen sig h)) hstack hW (by rw [hb]; exact hdg)
    (fun vm₁ hW₁ => ⟨hf.1, hf.2, hp.2 (T.setVm vm₁) hT hW₁⟩)
  dsimp only [Pt.U, Pt.locs, Pt.cells, Pt.slots] at X' e1 e2 h1 h2 h3 st
  subst h1; subst h2; subst h3
  exact ⟨v, (T.setVm vm₁).calling g' mk As.toArray, t, U', L, hT, X', hL, e1, e2, hq, st⟩
/-- not caught here, past rows that name other classes: it goes on to the caller -/
theorem vx_outP {p : Program} {l : Launch} {e : Env} {R : Room} {s : State} {m : MethodId} {args : Array Value} {below : List Frame} {meth : Method} {c : Code} {H : Heap} {locs : List Loc} {cells slots : Nat} {free : Addr → Prop} {ls : Array Slot} {rest : List Value} {Qc : Array Value → State → Outcome → State → Prop} {XC : String → State → State → Prop}
    {pc : Nat} {own E : String} {ce : Cell} {q : Addr} {mc ms : Nat} (hown : s.vm.findClass own = some m.cls) (hlocks : meth.locks = false)
    (hpass : ∀ z ∈ c.exceptionTable.toList, covers z pc = false ∨ (z.catchType ≠ 0 ∧ ∃ nm : String, (Cond.classLink own z.catchType nm).before args s = true ∧ va_Nc E nm s)) (hcell : H[q]? = some ce) (hv : ce.vm = .none) (hcl : s.vm.findClass E = some ce.cls)
    (hx : ∀ t : State, t.heap = H → s.vm.Alike t.vm → XC E s t) (hf : ∀ z ∈ locs, free z.base) (hc : cells ≤ mc) (hs : slots ≤ ms) :
    vx_W p l e R s m args below meth c H locs cells slots (vx_MQ below Qc XC args s mc ms free) (F0 m pc ls rest) q := by
  intro T hT X
  have hpl : e.platform.magicAccessors = ({} : Platform).magicAccessors := by rw [X.admits.platform]
  obtain ⟨vm', hW', X', st⟩ := X.outThrough hlocks q (g := F0 m pc ls rest) rfl rfl rfl (cell := ce) (by rw [hT]; exact hcell) (by rw [hv]; rfl)
    (by obtain ⟨k9, h9, -⟩ := Vm.findClass_spec hcl; exact ⟨k9, h9⟩) (fun z hz => by
      rcases hpass z hz with h | ⟨hz0, nm, hl1, hn1⟩
      · exact Or.inl h
      · obtain ⟨c6, hc6, hcl6⟩ := Cond.classLink_spec hown hl1 e.platform hpl
        obtain ⟨a8, b8, h1, h2, h3⟩ := hn1
        cases Option.some.inj (h1.symm.trans hcl)
        cases Option.some.inj (h2.symm.trans hc6)
        exact Or.inr ⟨hz0, _, hcl6, h3⟩)
  obtain ⟨g₀, hfr⟩ := X'.frames_eq
  have hcell9 : ((T.setVm vm').setFrames (.throwing q :: below)).heap[q]? = some ce := by
    show T.heap[q]? = some ce
    rw [hT]; exact hcell
  have hend : Ended ((T.setVm vm').setFrames (.throwing q :: below)) below (.threw q) := State.frames_setFrames _ (State.cur_lt_of_frames hfr)
  refine ⟨(T.setVm vm').setFrames (.throwing q :: below), ?_, .threw q, X'.here.running, hend, Or.inr ⟨q, rfl, E, ce, locs, hx _ hT (X'.ends _).1.alike, hcell9, hv, hcl, (X'.ends _).1, (X'.ends _).2.mono hc hs, hf⟩⟩
  rw [X.pushThrowing_eq]
  exact st
/-- a thing of a world lies in the heap -/
theorem vx_lt {D : va_G} {cl : List vw_C} {ws : va_W} {H1 : Heap} (h : va_P D cl ws H1) {k : Nat} {q : Nat × va_E} (hk : ws[k]? = some q) : q.1 < H1.size := (h k q hk).lt
end VXS
/-! ===== END ===== -/
/-! ===== BEGIN methods with a table of their own: called by a name, returning or throwing ===== -/
section VXH
/-! vx_backW, vx_callVX, vx_callSX, vx_callVW, vx_runVW, vx_runVX, vx_runSX, vx_ofWH follow the same proofs as their sisters above (Free/Laws.lean, Shelf42/LK1.lean); vx_outP calls Shelf42/NT130.lean (outThrough). -/
section
variable {l : Launch} {R : Room} {p : Program} {e : Env} {below : List Frame} {s : State} {sargs : Array Value} {y : MethodName} {len W9 : Nat}
theorem vx_backW {ws : List Cond} {rm : Room} {Pc : Array Value → State → Prop} {Qc : Array Value → State → Outcome → State → Prop} {XC : String → State → State → Prop} {mc ms : Nat} {free : Addr → Prop} {bytes : ByteArray} {maxL : Nat} {ret : Option FieldType} {hh : List (Nat × Nat × Nat × Nat)}
    (hM : vx_Met l y ws rm Pc Qc XC mc ms free) (hblind : FrameBlind Pc) (hrc : rm.cells = mc) (hrs : rm.slots = ms)
    (hframes : rm.frames + 1 ≤ R.frames) (hlocals : W9 + (maxL + 11) + rm.locals ≤ R.locals)
    (hws : ∀ w ∈ ws, ∀ a' U, s.WarmedH U.vm → w.before a' U = true) (hcode : Cond.codeWith y bytes maxL ret hh ∈ ws) (hinit : ∀ a' U, s.WarmedH U.vm → (Cond.initialized y.cls).before a' U = true) :
    vx_Back l R p e below s sargs y len W9 (PreOf R mc ms Pc) (PostOf Qc mc ms free) (vx_Post XC mc ms free) := by
  intro m meth c A g ig mk a X hg hsize hdg hW hn hp
  have h1 : (headSpec ws rm).pre.before a A.U = true := atoms_intro fun w hw => hws w hw _ _ X.warmed
  have h2 : (Cond.codeWith y bytes maxL ret hh).before a A.U = true := hws _ hcode _ _ X.warmed
  have h3 : (Cond.initialized y.cls).before a A.U = true := hinit _ _ X.warmed
  have h4 : A.cells + (headSpec ws rm).room.cells ≤ R.cells := by rw [show (headSpec ws rm).room.cells = mc from hrc]; exact hp.1
  have h5 : A.slots + (headSpec ws rm).room.slots ≤ R.slots := by rw [show (headSpec ws rm).room.slots = ms from hrs]; exact hp.2.1
  have hPc : Pc a (A.U.calling g mk a) := hblind _ _ _ _ hp.2.2
  obtain ⟨U, Ls, c0, s0⟩ := A
  dsimp only [Pt.U, Pt.locs, Pt.cells, Pt.slots] at h1 h2 h3 h4 h5 X hn hPc ⊢
  obtain ⟨m9, methY, cY, hn9, hmY, hcY, -, hlY, -⟩ := Cond.codeWith_spec h2
  cases Option.some.inj (hn9.symm.trans hn)
  obtain ⟨kY, hkY, -⟩ := className_of_methodNamed hn
  have hinitY : kY.init = .initialized := Cond.initialized_spec (findClass_of_methodNamed hn) hkY h3
  have h : At U g.method c below := by rw [hg]; exact X.here
  have hlocals9 : W9 + (maxL + 11) + (headSpec ws rm).room.locals ≤ R.locals := hlocals
  have happ : (headSpec ws rm).appliesLoose y e.platform (U.calling g mk a) = true :=
    Spec.appliesLoose_calling (g := g) h hdg hn hkY hinitY
      (X.room_calling (g := g) (R' := (headSpec ws rm).room) hsize hmY hcY hframes (by rw [hlY]; omega) h4 h5) h1
  obtain ⟨mid, hmid⟩ := h.above
  have hfr : (U.setTop g).frames = (.java g :: mid) ++ below := by rw [State.frames_setTop' g h.top, hmid]; rfl
  obtain ⟨o, s₂, hsteps, -, hend, hq⟩ := Steps.callFree hM p X.admits X.cas X.clock (acts := []) hfr happ hPc trivial
  have hq' : vx_Q Qc XC mc ms free a (U.calling g mk a) o s₂ := hq
  rw [State.frames_setTop' g h.top] at hend
  obtain ⟨g₀, hg0⟩ := Option.isSome_iff_exists.mp h.top
  obtain ⟨r, hr⟩ := State.topJava?_eq_some.mp hg0
  have hr' : (({ U with heap := s₂.heap, slotsUsed := s₂.slotsUsed } : State).setVm s₂.vm).frames = .java g₀ :: r := hr
  rcases hq' with ⟨hqc, L, hfe, hL⟩ | ⟨q, rfl, E, ce, L, hx, hce, hcv, hcl, hW₂, hsm, hL⟩
  · obtain ⟨⟨v, rfl⟩, hW₂, e2, q2, q3, q4, q5, q6⟩ := id hfe
    have e3 : s₂ = ({ (U.calling g mk a).setFrames s₂.frames with heap := s₂.heap, slotsUsed := s₂.slotsUsed } : State).setVm s₂.vm := by
      have : s₂ = ({ s₂ with vm := (U.calling g mk a).vm } : State).setVm s₂.vm := rfl
      rw [e2] at this
      exact this
    obtain ⟨c₂, i₂, len₂, hc₂, hd₂, hf₂⟩ := hend
    have hW' : U.WarmedH s₂.vm := hW₂
    have hcc : c₂ = c := by
      have h1 : s₂.code? g.method = U.code? g.method := by
        rw [State.code?_eq, State.code?_eq, hW'.alike.method?]
      exact Option.some.inj (hc₂.symm.trans (h1.trans h.code))
    subst hcc
    have hlen : len₂ = len := by rw [hdg] at hd₂; cases hd₂; rfl
    subst hlen
    have hs₂ : s₂ = (({ U with heap := s₂.heap, slotsUsed := s₂.slotsUsed } : State).setVm s₂.vm).setTop { g with pc := g.pc + len₂, stack := v.toList ++ g.stack } := by
      refine e3.trans ?_
      rw [hf₂, State.calling_eq h.top, State.setFrames_setFrames, State.setTop_of_frames _ hr', hr]
      rfl
    have hsame : U.sameButNew ({ U with heap := s₂.heap, slotsUsed := s₂.slotsUsed } : State) L mc ms := by
      refine ⟨?_, q2, q3, q4, q5, q6⟩
      obtain ⟨t, ht, -⟩ := State.frames_cons hr
      show ({ U with heap := s₂.heap, slotsUsed := s₂.slotsUsed } : State) = { U.setFrames U.frames with heap := s₂.heap, slotsUsed := s₂.slotsUsed }
      rw [State.setFrames_self ht]
    subst hg
    refine Or.inl ⟨v, ⟨(({ U with heap := s₂.heap, slotsUsed := s₂.slotsUsed } : State).setVm s₂.vm), Ls ++ L, c0 + mc, s0 + ms⟩,
      ⟨X.admits, X.cas, X.clock, X.frames, X.room, X.hears, X.method, X.code, (X.here.setHeapUsed s₂.heap s₂.slotsUsed).setVm hW'.alike, X.tail, State.WarmedH.trans X.warmed hW', X.limits, X.bytes, X.same.trans (hsame.setVm s.vm)⟩,
      ⟨g, mk, s₂, L, rfl, rfl, hqc, rfl, hL, rfl, rfl⟩, ?_⟩
    show Steps p.tables e below _ ((({ U with heap := s₂.heap, slotsUsed := s₂.slotsUsed } : State).setVm s₂.vm).setTop { g with pc := g.pc + len₂, stack := v.toList ++ g.stack })
    rw [← hs₂]
    exact hsteps
  · obtain ⟨e2, q2, q3, q4, q5, q6⟩ := id hsm
    have e3 : s₂ = ({ (U.calling g mk a).setFrames s₂.frames with heap := s₂.heap, slotsUsed := s₂.slotsUsed } : State).setVm s₂.vm := by
      have : s₂ = ({ s₂ with vm := (U.calling g mk a).vm } : State).setVm s₂.vm := rfl
      rw [e2] at this
      exact this
    have hf₂ : s₂.frames = .throwing q :: .java g :: U.frames.tail := hend
    have hW' : U.WarmedH s₂.vm := hW₂
    have hs₂ : s₂ = ((({ U with heap := s₂.heap, slotsUsed := s₂.slotsUsed } : State).setVm s₂.vm).setTop g).pushFrame (.throwing q) := by
      refine e3.trans ?_
      rw [hf₂, State.calling_eq h.top, State.setFrames_setFrames, State.pushFrame, State.frames_setTop _ hr', State.setTop_of_frames _ hr', State.setFrames_setFrames, hr]
      rfl
    have hsame : U.sameButNew ({ U with heap := s₂.heap, slotsUsed := s₂.slotsUsed } : State) L mc ms := by
      refine ⟨?_, q2, q3, q4, q5, q6⟩
      obtain ⟨t, ht, -⟩ := State.frames_cons hr
      show ({ U with heap := s₂.heap, slotsUsed := s₂.slotsUsed } : State) = { U.setFrames U.frames with heap := s₂.heap, slotsUsed := s₂.slotsUsed }
      rw [State.setFrames_self ht]
    subst hg
    refine Or.inr ⟨q, ⟨(({ U with heap := s₂.heap, slotsUsed := s₂.slotsUsed } : State).setVm s₂.vm), Ls ++ L, c0 + mc, s0 + ms⟩,
      ⟨X.admits, X.cas, X.clock, X.frames, X.room, X.hears, X.method, X.code, (X.here.setHeapUsed s₂.heap s₂.slotsUsed).setVm hW'.alike, X.tail, State.WarmedH.trans X.warmed hW', X.limits, X.bytes, X.same.trans (hsame.setVm s.vm)⟩,
      ⟨g, mk, s₂, L, E, ce, rfl, rfl, hx, hce, hcv, hcl, rfl, hL, rfl, rfl⟩, ?_⟩
    show Steps p.tables e below _ (((({ U with heap := s₂.heap, slotsUsed := s₂.slotsUsed } : State).setVm s₂.vm).setTop g).pushFrame (.throwing q))
    rw [← hs₂]
    exact hsteps
end
variable {p : Program} {l : Launch} {e : Env} {R : Room} {s : State} {m : MethodId} {args : Array Value} {below : List Frame} {meth : Method} {c : Code} {T : State} {H : Heap} {locs : List Loc} {cells slots : Nat}
theorem vx_callVX (X : Stand p l e R s m args below meth c T locs cells slots) (hexec : p.tables.exec = Jvm.exec) {own C : String} {index : Nat} {y : MethodName} {bytes : ByteArray} {maxL : Nat} {ret : Option FieldType} {hh : List (Nat × Nat × Nat × Nat)}
    (hown : s.vm.findClass own = some m.cls) (hlink : (Cond.methodLink own index y).before args s = true) (hinst : (Cond.instanceMethod y).before args s = true) (hsel : (Cond.selects C y y).before args s = true)
    (hcode : (Cond.codeWith y bytes maxL ret hh).before args s = true) (hy : y.cls ≠ "java/lang/invoke/MethodHandle" ∧ y.cls ≠ "java/lang/invoke/VarHandle")
    {W9 : Nat} {Pre : Pt → Array Value → Prop} {Post : Pt → Array Value → Option Value → Pt → Prop} {PostX : Pt → Array Value → Addr → Pt → Prop} (hK : vx_Back l R p e below s args y 3 W9 Pre Post PostX)
    {b : Addr} {cellB : Cell} (hcell : T.heap[b]? = some cellB) (hobj : cellB.vm.isStatics = false) (hcls : s.vm.findClass C = some cellB.cls)
    {g : JFrame} (hg : g.method = m) (hsize : g.locals.size = c.maxLocals) {argsL rest : List Value} (hlen : ∀ sig, parseMethodDescriptor y.desc = some sig → argsL.length = sig.parameters.length)
    (hstack : g.stack = argsL.reverse ++ .ref b :: rest) (hW : 2 * g.monitorRoom + (rest.map fun v => v.category).sum ≤ W9) (hdg : decode c.code g.pc = .ok (.invokevirtual index, 3))
    (hpre : ∀ vm₁, s.WarmedH vm₁ → Pre ⟨T.setVm vm₁, locs, cells, slots⟩ (Value.ref b :: argsL).toArray) :
    (∃ (v : Option Value) (vm₁ : Vm) (B : Pt), s.WarmedH vm₁ ∧ Stand p l e R s m args below meth c B.U B.locs B.cells B.slots ∧ Post ⟨T.setVm vm₁, locs, cells, slots⟩ (Value.ref b :: argsL).toArray v B ∧
      ∀ target, Steps p.tables e below (B.U.setTop { g with pc := g.pc + 3, stack := v.toList ++ rest }) target → Steps p.tables e below (T.setTop g) target) ∨
    (∃ (q : Addr) (vm₁ : Vm) (B : Pt), s.WarmedH vm₁ ∧ Stand p l e R s m args below meth c B.U B.locs B.cells B.slots ∧ PostX ⟨T.setVm vm₁, locs, cells, slots⟩ (Value.ref b :: argsL).toArray q B ∧
      Steps p.tables e below (T.setTop g) ((B.U.setTop { g with stack := rest }).pushFrame (.throwing q))) := by
  obtain ⟨mk, methM, hnamed, hmethM, hstM, habM⟩ := Cond.instanceMethod_spec hinst
  obtain ⟨m8, methM', cM, hn8, hmethM', -, -, -, -, -, -, hsigM⟩ := Cond.codeWith_spec hcode
  cases Option.some.inj (hn8.symm.trans hnamed)
  cases hmethM.symm.trans hmethM'
  obtain ⟨c2, r2, m2, q1, q2, q3, q4, kP, hkP, hkPi⟩ := Cond.selects_spec hsel
  cases hcls.symm.trans q1
  cases (State.methodFound?_of_named hnamed hy).symm.trans q2
  cases hnamed.symm.trans q3
  have hselP : selectMethod e.platform s.vm cellB.cls mk = .method mk := by rw [Launch.admits_selectMethod X.admits]; exact q4
  obtain ⟨vm₁, X₁, hstep₁⟩ := X.invokevirtual hexec hown hlink hnamed hmethM hstM hkP hkPi hy (a := b) (cell := cellB) hcell
    (fun z h => by rw [h] at hobj; cases hobj) hselP hmethM habM hkP hkPi (g := g) hg (argsL := argsL) (rest := rest) (hlen _ hsigM) hstack hdg
  rcases hK m meth c ⟨T.setVm vm₁, locs, cells, slots⟩ { g with stack := rest } (.invokevirtual index) mk (Value.ref b :: argsL).toArray X₁ hg hsize hdg hW (X₁.named hnamed) (hpre vm₁ X₁.warmed) with ⟨v, B, X', hpost, hsteps⟩ | ⟨q, B, X', hpost, hsteps⟩
  · exact Or.inl ⟨v, vm₁, B, X₁.warmed, X', hpost, fun target h => hstep₁ _ fun acts => by rw [doInvoke_state]; exact hsteps.trans h⟩
  · exact Or.inr ⟨q, vm₁, B, X₁.warmed, X', hpost, hstep₁ _ fun acts => by rw [doInvoke_state]; exact hsteps⟩
theorem vx_callSX (X : Stand p l e R s m args below meth c T locs cells slots) (hexec : p.tables.exec = Jvm.exec) {own : String} {index : Nat} {y : MethodName} {bytes : ByteArray} {maxL : Nat} {ret : Option FieldType} {hh : List (Nat × Nat × Nat × Nat)}
    (hown : s.vm.findClass own = some m.cls) (hlink : (Cond.methodLink own index y).before args s = true) (hstat : (Cond.static y).before args s = true) (hinit : (Cond.initialized y.cls).before args s = true)
    (hcode : (Cond.codeWith y bytes maxL ret hh).before args s = true) (hy : y.cls ≠ "java/lang/invoke/MethodHandle" ∧ y.cls ≠ "java/lang/invoke/VarHandle")
    {W9 : Nat} {Pre : Pt → Array Value → Prop} {Post : Pt → Array Value → Option Value → Pt → Prop} {PostX : Pt → Array Value → Addr → Pt → Prop} (hK : vx_Back l R p e below s args y 3 W9 Pre Post PostX)
    {g : JFrame} (hg : g.method = m) (hsize : g.locals.size = c.maxLocals) {argsL rest : List Value} (hlen : ∀ sig, parseMethodDescriptor y.desc = some sig → argsL.length = sig.parameters.length)
    (hstack : g.stack = argsL.reverse ++ rest) (hW : 2 * g.monitorRoom + (rest.map fun v => v.category).sum ≤ W9) (hdg : decode c.code g.pc = .ok (.invokestatic index, 3))
    (hpre : ∀ vm₁, s.WarmedH vm₁ → Pre ⟨T.setVm vm₁, locs, cells, slots⟩ argsL.toArray) :
    (∃ (v : Option Value) (vm₁ : Vm) (B : Pt), s.WarmedH vm₁ ∧ Stand p l e R s m args below meth c B.U B.locs B.cells B.slots ∧ Post ⟨T.setVm vm₁, locs, cells, slots⟩ argsL.toArray v B ∧
      ∀ target, Steps p.tables e below (B.U.setTop { g with pc := g.pc + 3, stack := v.toList ++ rest }) target → Steps p.tables e below (T.setTop g) target) ∨
    (∃ (q : Addr) (vm₁ : Vm) (B : Pt), s.WarmedH vm₁ ∧ Stand p l e R s m args below meth c B.U B.locs B.cells B.slots ∧ PostX ⟨T.setVm vm₁, locs, cells, slots⟩ argsL.toArray q B ∧
      Steps p.tables e below (T.setTop g) ((B.U.setTop { g with stack := rest }).pushFrame (.throwing q))) := by
  obtain ⟨mk, methM, cM, hnamed, hmethM, -, -, -, -, -, -, hsigM⟩ := Cond.codeWith_spec hcode
  have hstatic : methM.isStatic = true := Cond.static_spec hnamed hmethM hstat
  obtain ⟨kP, hkP, -⟩ := className_of_methodNamed hnamed
  have hinitP : kP.init = .initialized := Cond.initialized_spec (findClass_of_methodNamed hnamed) hkP hinit
  obtain ⟨vm₁, X₁, hstep₁⟩ := X.invokestatic hexec hown hlink hnamed hmethM hstatic hkP hinitP hy (g := g) hg (argsL := argsL) (rest := rest) (hlen _ hsigM) hstack hdg
  rcases hK m meth c ⟨T.setVm vm₁, locs, cells, slots⟩ { g with stack := rest } (.invokestatic index) mk argsL.toArray X₁ hg hsize hdg hW (X₁.named hnamed) (hpre vm₁ X₁.warmed) with ⟨v, B, X', hpost, hsteps⟩ | ⟨q, B, X', hpost, hsteps⟩
  · exact Or.inl ⟨v, vm₁, B, X₁.warmed, X', hpost, fun target h => hstep₁ _ fun acts => by rw [doInvoke_state]; exact hsteps.trans h⟩
  · exact Or.inr ⟨q, vm₁, B, X₁.warmed, X', hpost, hstep₁ _ fun acts => by rw [doInvoke_state]; exact hsteps⟩
theorem vx_callVW (X : Stand p l e R s m args below meth c T locs cells slots) (hexec : p.tables.exec = Jvm.exec) {own C : String} {index : Nat} {y : MethodName} {bytes : ByteArray} {maxL : Nat} {ret : Option FieldType} {hh : List (Nat × Nat × Nat × Nat)}
    (hown : s.vm.findClass own = some m.cls) (hlink : (Cond.methodLink own index y).before args s = true) (hinst : (Cond.instanceMethod y).before args s = true) (hsel : (Cond.selects C y y).before args s = true)
    (hcode : (Cond.codeWith y bytes maxL ret hh).before args s = true) (hy : y.cls ≠ "java/lang/invoke/MethodHandle" ∧ y.cls ≠ "java/lang/invoke/VarHandle")
    {W9 : Nat} {Pre : Pt → Array Value → Prop} {Post : Pt → Array Value → Option Value → Pt → Prop} (hK : Back l R p e below s args y 3 W9 Pre Post)
    {b : Addr} {cellB : Cell} (hcell : T.heap[b]? = some cellB) (hobj : cellB.vm.isStatics = false) (hcls : s.vm.findClass C = some cellB.cls)
    {g : JFrame} (hg : g.method = m) (hsize : g.locals.size = c.maxLocals) {argsL rest : List Value} (hlen : ∀ sig, parseMethodDescriptor y.desc = some sig → argsL.length = sig.parameters.length)
    (hstack : g.stack = argsL.reverse ++ .ref b :: rest) (hW : 2 * g.monitorRoom + (rest.map fun v => v.category).sum ≤ W9) (hdg : decode c.code g.pc = .ok (.invokevirtual index, 3))
    (hpre : ∀ vm₁, s.WarmedH vm₁ → Pre ⟨T.setVm vm₁, locs, cells, slots⟩ (Value.ref b :: argsL).toArray) :
    ∃ (v : Option Value) (vm₁ : Vm) (B : Pt), s.WarmedH vm₁ ∧ Stand p l e R s m args below meth c B.U B.locs B.cells B.slots ∧ Post ⟨T.setVm vm₁, locs, cells, slots⟩ (Value.ref b :: argsL).toArray v B ∧
      ∀ target, Steps p.tables e below (B.U.setTop { g with pc := g.pc + 3, stack := v.toList ++ rest }) target → Steps p.tables e below (T.setTop g) target := by
  obtain ⟨mk, methM, hnamed, hmethM, hstM, habM⟩ := Cond.instanceMethod_spec hinst
  obtain ⟨m8, methM', cM, hn8, hmethM', -, -, -, -, -, -, hsigM⟩ := Cond.codeWith_spec hcode
  cases Option.some.inj (hn8.symm.trans hnamed)
  cases hmethM.symm.trans hmethM'
  obtain ⟨c2, r2, m2, q1, q2, q3, q4, kP, hkP, hkPi⟩ := Cond.selects_spec hsel
  cases hcls.symm.trans q1
  cases (State.methodFound?_of_named hnamed hy).symm.trans q2
  cases hnamed.symm.trans q3
  have hselP : selectMethod e.platform s.vm cellB.cls mk = .method mk := by rw [Launch.admits_selectMethod X.admits]; exact q4
  obtain ⟨vm₁, X₁, hstep₁⟩ := X.invokevirtual hexec hown hlink hnamed hmethM hstM hkP hkPi hy (a := b) (cell := cellB) hcell
    (fun z h => by rw [h] at hobj; cases hobj) hselP hmethM habM hkP hkPi (g := g) hg (argsL := argsL) (rest := rest) (hlen _ hsigM) hstack hdg
  obtain ⟨v, B, X', hpost, hsteps⟩ := hK m meth c ⟨T.setVm vm₁, locs, cells, slots⟩ { g with stack := rest } (.invokevirtual index) mk (Value.ref b :: argsL).toArray X₁ hg hsize hdg hW (X₁.named hnamed) (hpre vm₁ X₁.warmed)
  exact ⟨v, vm₁, B, X₁.warmed, X', hpost, fun target h => hstep₁ _ fun acts => by rw [doInvoke_state]; exact hsteps.trans h⟩
abbrev vx_CVW (R : Room) (s : State) (args : Array Value) (own C : String) (index : Nat) (y : MethodName) (bytes : ByteArray) (maxL : Nat) (ret : Option FieldType) (hh : List (Nat × Nat × Nat × Nat)) (ws : List Cond) (rm : Room) (mc ms n : Nat) : Prop :=
  (rm.cells = mc ∧ rm.slots = ms ∧ rm.frames + 1 ≤ R.frames ∧ 8 + (maxL + 11) + rm.locals ≤ R.locals ∧ (∀ w ∈ ws, ∀ (a' : Array Value) (U : State), s.WarmedH U.vm → w.before a' U = true) ∧ Cond.codeWith y bytes maxL ret hh ∈ ws) ∧
  (Cond.codeWith y bytes maxL ret hh).before args s = true ∧ (Cond.initialized y.cls).before args s = true ∧ (y.cls ≠ "java/lang/invoke/MethodHandle" ∧ y.cls ≠ "java/lang/invoke/VarHandle") ∧
  (∀ sig, parseMethodDescriptor y.desc = some sig → n = sig.parameters.length) ∧ (Cond.methodLink own index y).before args s = true ∧ (Cond.instanceMethod y).before args s = true ∧ (Cond.selects C y y).before args s = true
theorem vx_cwVW {own C : String} {index maxL mc ms : Nat} {y : MethodName} {bytes : ByteArray} {ret : Option FieldType} {hh : List (Nat × Nat × Nat × Nat)} {Ts ws ws' : List Cond} {rm : Room} (n : Nat) (ht : ∀ w ∈ Ts, w.before args s = true) (hT : GoodIn Ts (wsV own index C y ws)) (hw : ws = Cond.codeWith y bytes maxL ret hh :: ws') (hrc : rm.cells = mc) (hrs : rm.slots = ms)
    (hd : y.cls = C ∧ y.cls ≠ "java/lang/invoke/MethodHandle" ∧ y.cls ≠ "java/lang/invoke/VarHandle" ∧ (parseMethodDescriptor y.desc).map (fun d => d.parameters.length) = some n) (hR : rm.frames + 1 ≤ R.frames ∧ 8 + (maxL + 11) + rm.locals ≤ R.locals) :
    vx_CVW R s args own C index y bytes maxL ret hh ws rm mc ms n := by
  obtain ⟨hC, hd⟩ := hd
  subst hC
  have ok : ∀ w ∈ wsV own index y.cls y ws, w.before args s = true := fun w h => ht w (hT w h).1
  have hG : GoodIn Ts ws := fun w h => hT w (by unfold wsV; exact List.mem_append_right _ h)
  have hc : Cond.codeWith y bytes maxL ret hh ∈ ws := by rw [hw]; exact List.mem_cons_self
  refine ⟨⟨hrc, hrs, hR.1, hR.2, pay_in ht hG, hc⟩, ht _ (hG _ hc).1, ok _ (by simp [wsV]), ⟨hd.1, hd.2.1⟩, fun sig h => ?_, ok _ (by simp [wsV]), ok _ (by simp [wsV]), ok _ (by simp [wsV])⟩
  have h2 := hd.2.2
  rw [h] at h2
  exact (Option.some.inj h2).symm
theorem vx_runVW {y : MethodName} {bytes cc : ByteArray} {maxL nL mc ms n index : Nat} {ret : Option FieldType} {hh : List (Nat × Nat × Nat × Nat)} {ws : List Cond} {rm : Room} {Pc : Array Value → State → Prop} {Qc : Array Value → State → Outcome → State → Prop} {free : Addr → Prop} {Ts : List Cond} {own C : String} {b : Addr} {As rest : List Value} {g : JFrame}
    (S : CallFix p m c cc nL s args Ts own) (hM : Met l y ws rm Pc Qc mc ms free) (cw : vx_CVW R s args own C index y bytes maxL ret hh ws rm mc ms n) (hp : PreV s H C b Pc As)
    (hg : g.method = m) (hn : As.length = n) (hsize : g.locals.size = nL) (hstack : g.stack = As.reverse ++ .ref b :: rest) (hW : 2 * g.monitorRoom + (rest.map fun v => v.category).sum ≤ 8) (hdg : decode cc g.pc = .ok (.invokevirtual index, 3)) (hf : cells + mc ≤ R.cells ∧ slots + ms ≤ R.slots) :
    va_Run p l e R s m args below meth c H locs cells slots mc ms g rest (Qc (Value.ref b :: As).toArray) free := by
  obtain ⟨⟨hrc, hrs, hfr, hlo, hws, hcw⟩, hcode, hini, hy, hlen, hl, hin, hse⟩ := cw
  have hK : Back l R p e below s args y 3 8 (PreOf R mc ms Pc) (PostOf Qc mc ms free) := va_backW (hh := hh) (bytes := bytes) (maxL := maxL) (ret := ret) hM hp.1 hrc hrs hfr hlo hws hcw (fun a' U hW => word_at hW (Or.inl (by first | rfl | simp [Cond.onTables, Cond.keeps, Cond.steady])) hini)
  obtain ⟨hx, hb, hml, ho, -⟩ := S
  obtain ⟨-, ⟨cellB, hcB, hoB, hclB⟩, hPc⟩ := hp
  intro T hT X
  obtain ⟨v, vm₁, ⟨U', l2, c2, s2⟩, hW₁, X', ⟨g', mk, t, L, e1, e2, hq, h1, hL, h2, h3⟩, st⟩ := vx_callVW X hx (C := C) (hh := hh) (bytes := bytes) (maxL := maxL) (ret := ret) ho hl hin hse hcode hy hK (by rw [hT]; exact hcB) hoB hclB hg (hsize.trans hml.symm) (argsL := As) (rest := rest) (fun sig h => hn.trans (hlen sig h)) hstack hW (by rw [hb]; exact hdg)
    (fun vm₁ hW₁ => ⟨hf.1, hf.2, hPc (T.setVm vm₁) hT hW₁⟩)
  dsimp only [Pt.U, Pt.locs, Pt.cells, Pt.slots] at X' e1 e2 h1 h2 h3 st
  subst h1; subst h2; subst h3
  exact ⟨v, (T.setVm vm₁).calling g' mk (Value.ref b :: As).toArray, t, U', L, hT, X', hL, e1, e2, hq, st⟩
section
variable {y : MethodName} {bytes cc : ByteArray} {maxL nL mc ms n index : Nat} {ret : Option FieldType} {ws : List Cond} {rm : Room} {Pc : Array Value → State → Prop} {Qc : Array Value → State → Outcome → State → Prop} {XC : String → State → State → Prop} {free : Addr → Prop} {Ts : List Cond} {own C : String} {b : Addr} {As rest : List Value} {g : JFrame}
theorem vx_runVX {hh : List (Nat × Nat × Nat × Nat)} (S : CallFix p m c cc nL s args Ts own) (hM : vx_Met l y ws rm Pc Qc XC mc ms free) (cw : vx_CVW R s args own C index y bytes maxL ret hh ws rm mc ms n) (hp : PreV s H C b Pc As)
    (hg : g.method = m) (hn : As.length = n) (hsize : g.locals.size = nL) (hstack : g.stack = As.reverse ++ .ref b :: rest) (hW : 2 * g.monitorRoom + (rest.map fun v => v.category).sum ≤ 8) (hdg : decode cc g.pc = .ok (.invokevirtual index, 3)) (hf : cells + mc ≤ R.cells ∧ slots + ms ≤ R.slots) :
    vx_Run p l e R s m args below meth c H locs cells slots mc ms g rest (Qc (Value.ref b :: As).toArray) XC free := by
  obtain ⟨⟨hrc, hrs, hfr, hlo, hws, hcw⟩, hcode, hini, hy, hlen, hl, hin, hse⟩ := cw
  have hK : vx_Back l R p e below s args y 3 8 (PreOf R mc ms Pc) (PostOf Qc mc ms free) (vx_Post XC mc ms free) := vx_backW (hh := hh) (bytes := bytes) (maxL := maxL) (ret := ret) hM hp.1 hrc hrs hfr hlo hws hcw (fun a' U hW => word_at hW (Or.inl (by first | rfl | simp [Cond.onTables, Cond.keeps, Cond.steady])) hini)
  obtain ⟨hx, hb, hml, ho, -⟩ := S
  obtain ⟨-, ⟨cellB, hcB, hoB, hclB⟩, hPc⟩ := hp
  intro T hT X
  rcases vx_callVX X hx (C := C) (hh := hh) (bytes := bytes) (maxL := maxL) (ret := ret) ho hl hin hse hcode hy hK (by rw [hT]; exact hcB) hoB hclB hg (hsize.trans hml.symm) (argsL := As) (rest := rest) (fun sig h => hn.trans (hlen sig h)) hstack hW (by rw [hb]; exact hdg)
    (fun vm₁ hW₁ => ⟨hf.1, hf.2, hPc (T.setVm vm₁) hT hW₁⟩) with ⟨v, vm₁, ⟨U', l2, c2, s2⟩, hW₁, X', ⟨g', mk, t, L, e1, e2, hq, h1, hL, h2, h3⟩, st⟩ | ⟨q, vm₁, ⟨U', l2, c2, s2⟩, hW₁, X', ⟨g', mk, t, L, E, ce, e1, e2, hq, hce, hcv, hcl, h1, hL, h2, h3⟩, st⟩
  · dsimp only [Pt.U, Pt.locs, Pt.cells, Pt.slots] at X' e1 e2 h1 h2 h3 st
    subst h1; subst h2; subst h3
    exact Or.inl ⟨v, (T.setVm vm₁).calling g' mk (Value.ref b :: As).toArray, t, U', L, hT, X', hL, e1, e2, hq, st⟩
  · dsimp only [Pt.U, Pt.locs, Pt.cells, Pt.slots] at X' e1 e2 h1 h2 h3 st hcl
    subst h1; subst h2; subst h3
    exact Or.inr ⟨q, (T.setVm vm₁).calling g' mk (Value.ref b :: As).toArray, t, U', L, E, ce, hT, X', hL, e1, e2, hq, hce, hcv, vx_cls hW₁ hcl, st⟩
theorem vx_runSX {hh : List (Nat × Nat × Nat × Nat)} (S : CallFix p m c cc nL s args Ts own) (hM : vx_Met l y ws rm Pc Qc XC mc ms free) (cw : vx_CSW R s args own index y bytes maxL ret hh ws rm mc ms n) (hp : PreS s H Pc As)
    (hg : g.method = m) (hn : As.length = n) (hsize : g.locals.size = nL) (hstack : g.stack = As.reverse ++ rest) (hW : 2 * g.monitorRoom + (rest.map fun v => v.category).sum ≤ 8) (hdg : decode cc g.pc = .ok (.invokestatic index, 3)) (hf : cells + mc ≤ R.cells ∧ slots + ms ≤ R.slots) :
    vx_Run p l e R s m args below meth c H locs cells slots mc ms g rest (Qc As.toArray) XC free := by
  obtain ⟨⟨hrc, hrs, hfr, hlo, hws, hcw⟩, hcode, hini, hy, hlen, hl, hstt⟩ := cw
  have hK : vx_Back l R p e below s args y 3 8 (PreOf R mc ms Pc) (PostOf Qc mc ms free) (vx_Post XC mc ms free) := vx_backW (hh := hh) (bytes := bytes) (maxL := maxL) (ret := ret) hM hp.1 hrc hrs hfr hlo hws hcw (fun a' U hW => word_at hW (Or.inl (by first | rfl | simp [Cond.onTables, Cond.keeps, Cond.steady])) hini)
  obtain ⟨hx, hb, hml, ho, -⟩ := S
  intro T hT X
  rcases vx_callSX X hx (hh := hh) (bytes := bytes) (maxL := maxL) (ret := ret) ho hl hstt hini hcode hy hK hg (hsize.trans hml.symm) (argsL := As) (rest := rest) (fun sig h => hn.trans (hlen sig h)) hstack hW (by rw [hb]; exact hdg)
    (fun vm₁ hW₁ => ⟨hf.1, hf.2, hp.2 (T.setVm vm₁) hT hW₁⟩) with ⟨v, vm₁, ⟨U', l2, c2, s2⟩, hW₁, X', ⟨g', mk, t, L, e1, e2, hq, h1, hL, h2, h3⟩, st⟩ | ⟨q, vm₁, ⟨U', l2, c2, s2⟩, hW₁, X', ⟨g', mk, t, L, E, ce, e1, e2, hq, hce, hcv, hcl, h1, hL, h2, h3⟩, st⟩
  · dsimp only [Pt.U, Pt.locs, Pt.cells, Pt.slots] at X' e1 e2 h1 h2 h3 st
    subst h1; subst h2; subst h3
    exact Or.inl ⟨v, (T.setVm vm₁).calling g' mk As.toArray, t, U', L, hT, X', hL, e1, e2, hq, st⟩
  · dsimp only [Pt.U, Pt.locs, Pt.cells, Pt.slots] at X' e1 e2 h1 h2 h3 st hcl
    subst h1; subst h2; subst h3
    exact Or.inr ⟨q, (T.setVm vm₁).calling g' mk As.toArray, t, U', L, E, ce, hT, X', hL, e1, e2, hq, hce, hcv, vx_cls hW₁ hcl, st⟩
end
end VXH
theorem vx_ofWH {l : Launch} {y : MethodName} {ws ws' : List Cond} {rm : Room} {Pc : Array Value → State → Prop} {Qc : Array Value → State → Outcome → State → Prop} {XC : String → State → State → Prop} {mc ms : Nat} {free : Addr → Prop} {cc : ByteArray} {maxL : Nat} {ret : Option FieldType} {hh : List (Nat × Nat × Nat × Nat)}
    (hy : plainName y.cls = true) (hw : ws = Cond.codeWith y cc maxL ret hh :: ws')
    (body : ∀ p e s m args below meth c s₁, BodyLoose p l y (headSpec ws rm) cc maxL ret e s m args below meth c s₁ → c.maxLocals = maxL → Pc args s →
      W p l e (headSpec ws rm).room s m args below meth c s.heap [] 0 0 (vx_MQ below Qc XC args s mc ms free) (entryFrame m args maxL)) : vx_Met l y ws rm Pc Qc XC mc ms free := by
  refine MetFree.of_bodyS (code := cc) (maxLocals := maxL) (ret := ret) hy ?_ ?_
  · intro args s m h hn
    obtain ⟨m9, meth, c, hn9, h1, h2, h3, h4, -, h5, h6, -⟩ := Cond.codeWith_spec (atoms_spec (ws := ws) h _ (by rw [hw]; exact List.mem_cons_self))
    cases hn.symm.trans hn9
    exact ⟨meth, c, h1, h2, h3, h4, h5, h6⟩
  · intro p e s m args below meth c s₁ B hml hP _
    have hh0 : s₁.heap = s.heap := by rw [B.state]; rfl
    obtain ⟨t, a1, o, b1, b2, b3⟩ := body p e s m args below meth c s₁ B hml hP s₁ hh0 (Stand.of_body B)
    exact ⟨t, o, a1, b1, b2, b3⟩
/-! ===== END ===== -/

/-! ===== BEGIN what the machine throws by itself, no traces kept ===== -/
section VXM
set_option maxHeartbeats 1000000 in
/-- the machine throws cls with the message text, no traces kept: from its note over the frame g to 'throwing' over the same frame (follows the proofs of Stand.vmThrowsMessage, Shelf/KitTracedVmS.lean, and Stand.throwsMessageColdBareV, StandMessageColdV.lean, without the step out of the frame) -/
theorem vx_vmAt {p : Program} {l : Launch} {e : Env} {R : Room} {s : State} {m₀ : MethodId} {args : Array Value} {below : List Frame} {meth : Method} {c : Code} {W : State} {locs : List Loc} {cells slots : Nat}
    (X : Stand p l e R s m₀ args below meth c W locs cells slots) (hexec : p.tables.exec = Jvm.exec) (htr : e.platform.stackTraces = false) {cls : String} {names : List String} {text : String}
    (hcls : Bundle.fit cls = true) (hnames : ∀ n ∈ names, Bundle.fit n = true) (hsoe : (cls == "java/lang/StackOverflowError") = false) (hoom : (cls == "java/lang/OutOfMemoryError") = false)
    (h : ∀ a ∈ Bundle.messageArmAtoms cls names, a.before args s = true)
    (hlocs : ∀ x ∈ locs, ∀ cell, s.heap[x.base]? = some cell → cell.vm.isStatics = false)
    (htext : (text == notModelled) = false) (hlimit : ¬ (stringBytes (stringToUtf16 text)).size > e.platform.arrayLengthLimit) (hheap : ¬ (stringBytes (stringToUtf16 text)).size * componentBytes .byte > e.platform.maxHeapBytes)
    {g : JFrame} (hg : g.method = m₀) (hsize : g.locals.size = c.maxLocals)
    (hRframes : names.length + 4 < R.frames) (hRlocals : 2 * g.monitorRoom + (g.stack.map fun v => v.category).sum + 10240 ≤ R.locals) (hshort : 13 * names.length + 55 ≤ 10240)
    (hRcells : cells + 3 ≤ R.cells) (hRslots : slots + ((stringBytes (stringToUtf16 text)).size + 4 + 6) ≤ R.slots) (hlocks : meth.locks = false) :
    ∃ (S : State) (q : Addr) (ce : Cell), (∀ target, Steps p.tables e below ((S.setTop g).pushFrame (.throwing q)) target → Steps p.tables e below ((W.setTop g).pushFrame (.throwNew cls (some text) none)) target) ∧
      Stand p l e R s m₀ args below meth c S locs (cells + 3) (slots + ((stringBytes (stringToUtf16 text)).size + 4 + 6)) ∧ S.heap[q]? = some ce ∧ s.vm.findClass cls = some ce.cls ∧ ce.vm = .none := by
  have howns : e.platform.frameOwnsMonitors = true := by rw [X.admits.platform]
  have hfin : e.platform.finalization = false := by rw [X.admits.platform]
  have hpl : e.platform.magicAccessors = ({} : Platform).magicAccessors := by rw [X.admits.platform]
  have a : ∀ x, x ∈ Bundle.messageArmAtoms cls names → x.holds args s none s [] = true := fun x hx => h x hx
  obtain ⟨T, Z0, L, -, Y⟩ := ThrowableC.of_atoms (args := args) howns hfin hpl (fun x hx => h x (by simp [Bundle.messageArmAtoms, hx]))
  obtain ⟨Z, M, LZ, LM, hnZ⟩ := Init0T.ofS_atoms (args := args) hpl L Y (fun x hx => h x (by simp [Bundle.messageArmAtoms, hx]))
  obtain ⟨P1, Ps, hlen, L1, hL, hP1m, hlink1, hlink⟩ := Bundle.chainS (args := args) hpl hnZ names cls hcls hnames (fun x hx => h x (by simp [Bundle.messageArmAtoms, hx]))
  obtain ⟨Zs, LZs, hn4, hfitv, hfitc⟩ := StringT.of_atoms (args := args) (fun x hx => h x (by simp [Bundle.messageArmAtoms, hx]))
  have hfound : s.vm.findClass cls = some P1.m.cls := findClass_of_methodNamed hP1m
  obtain ⟨c1, kX, hc1, hk, hord, -, -, hn6⟩ := Cond.instantiable_spec (a (.instantiable cls 6) (by simp [Bundle.messageArmAtoms]))
  cases Option.some.inj (hc1.symm.trans hfound)
  have hinit := Cond.initialized_spec hfound hk (a (.initialized cls) (by simp [Bundle.messageArmAtoms]))
  have hctor : kX.findMethod "<init>" "(Ljava/lang/String;)V" = some P1.m.idx := findMethod_of_methodNamed hP1m hk
  have hsel0 : selectMethod e.platform s.vm P1.m.cls T.fill0 = .method T.fill0 := by
    obtain ⟨c2, r2, m2, q1, q2, q3, q4, -⟩ := Cond.selects_spec (a (.selects cls Bundle.tFill0 Bundle.tFill0) (by simp [Bundle.messageArmAtoms]))
    cases Option.some.inj (q1.symm.trans hfound)
    cases Option.some.inj (q2.symm.trans (State.methodFound?_of_named Y.fill0 (by decide)))
    cases Option.some.inj (q3.symm.trans Y.fill0)
    rw [Launch.admits_selectMethod X.admits]; exact q4
  have hselF : selectMethod e.platform s.vm P1.m.cls T.fill = .method T.fill := by
    obtain ⟨c2, r2, m2, q1, q2, q3, q4, -⟩ := Cond.selects_spec (a (.selects cls Bundle.tFill Bundle.tFill) (by simp [Bundle.messageArmAtoms]))
    cases Option.some.inj (q1.symm.trans hfound)
    cases Option.some.inj (q2.symm.trans (State.methodFound?_of_named Y.fill (by decide)))
    cases Option.some.inj (q3.symm.trans Y.fill)
    rw [Launch.admits_selectMethod X.admits]; exact q4
  obtain ⟨cellS0, hcS0, hiss⟩ := Y.statics
  obtain ⟨u0, hu0⟩ := Cond.staticRefV Y.unassigned L.unassignedStatic L.statics hcS0 hiss (a (.isRef (.static Bundle.tN "UNASSIGNED_STACK" Bundle.steD)) (by simp [Bundle.messageArmAtoms]))
  obtain ⟨sen, hsen⟩ := Cond.staticRefV Y.sentinel L.sentinelStatic L.statics hcS0 hiss (a (.isRef (.static Bundle.tN "SUPPRESSED_SENTINEL" Bundle.listD)) (by simp [Bundle.messageArmAtoms]))
  obtain ⟨ci198, i198, fB, hk198, hg198, ha198, hsB, -, hnB, htB, hffB⟩ := Cond.ownField (t := .object "java/lang/Object") Y.found L.cls (by decide +kernel) (a (.fieldLink Bundle.tN 198 Bundle.tN "backtrace" "Ljava/lang/Object;") (by simp [Bundle.messageArmAtoms])) (a (.lays Bundle.tN Bundle.tN "backtrace" "Ljava/lang/Object;") (by simp [Bundle.messageArmAtoms])) e.platform hpl
  obtain ⟨cellS, hcS', heS, -, hkeep⟩ := X.same.2.2.2.2.2 T.aS cellS0 hcS0
  have hcellS : W.heap[T.aS]? = some cellS := hcS'
  have hout' : ∀ i, (⟨T.aS, i⟩ : Loc) ∉ locs := fun i hmem => by
    have := hlocs _ hmem cellS0 hcS0
    rw [hiss] at this; cases this
  have hknownS : cellS.vm ≠ .unknown := by
    rw [heS]; intro hu
    rw [show cellS0.vm = .unknown from hu] at hiss
    cases hiss
  have hvU : cellS.slots[T.fUnassigned.slot]? = some u0.v := by rw [hkeep _ (hout' _)]; exact hu0
  have hvSen : cellS.slots[T.fSentinel.slot]? = some sen.v := by rw [hkeep _ (hout' _)]; exact hsen
  obtain ⟨iM, hffM⟩ := Y.msg
  obtain ⟨tyC, dC, hdC, hdnC⟩ := Cond.laysAt hfound hk Y.cause (a (.lays cls Bundle.tN "cause" "Ljava/lang/Throwable;") (by simp [Bundle.messageArmAtoms]))
  obtain ⟨tyS, dS, hdS, hdnS⟩ := Cond.laysAt hfound hk Y.stack (a (.lays cls Bundle.tN "stackTrace" Bundle.steD) (by simp [Bundle.messageArmAtoms]))
  obtain ⟨tyP, dP, hdP, hdnP⟩ := Cond.laysAt hfound hk Y.supp (a (.lays cls Bundle.tN "suppressedExceptions" Bundle.listD) (by simp [Bundle.messageArmAtoms]))
  obtain ⟨tyM, dM, hdM, hdnM⟩ := Cond.laysAt hfound hk hffM (a (.lays cls Bundle.tN "detailMessage" "Ljava/lang/String;") (by simp [Bundle.messageArmAtoms]))
  obtain ⟨tyB, dB, hdB, hdnB⟩ := Cond.laysAt hfound hk hffB (a (.lays cls Bundle.tN "backtrace" "Ljava/lang/Object;") (by simp [Bundle.messageArmAtoms]))
  have bC := Cond.laysApart hdB hdC hdnB hdnC (by rw [hnB, Y.causeName]; decide)
  have bS := Cond.laysApart hdB hdS hdnB hdnS (by rw [hnB, Y.stackName]; decide)
  have bP := Cond.laysApart hdB hdP hdnB hdnP (by rw [hnB, Y.suppName]; decide)
  have hbk : ((preparedCellV T.toThrowableT (freshCell P1.m.cls kX) (W.heap.size + 2) u0 sen).withEntry W.cur).slots[fB.slot]? = some .null := by
    have := fresh_default (c := P1.m.cls) tyB
    rw [htB] at this
    simpa [preparedCellV, Cell.setSlot, Cell.withEntry, Array.getElem?_setIfInBounds, bC, bS, bP, bC.symm, bS.symm, bP.symm, defaultValue] using this
  have tkC := Takes.of_laid (v := .ref (W.heap.size + 2)) hk hord tyC (by rw [Y.causeType]; rfl)
  have tkS := Takes.of_laid (v := u0.v) hk hord tyS (by rw [Y.stackType]; exact fits_refV_array _ u0)
  have tkP := Takes.of_laid (v := sen.v) hk hord tyP (by rw [Y.suppType]; exact fits_refV_object _ sen)
  have tkM := Takes.of_laid (v := .ref (W.heap.size + 1)) hk hord tyM (by rw [Y.msgType]; rfl)
  have hskip : SkipFacts T e.platform s (fun u => u) u0 ((preparedCellV T.toThrowableT (freshCell P1.m.cls kX) (W.heap.size + 2) u0 sen).withEntry W.cur) := ⟨{ ci198 := ci198, i198 := i198, fBack := fB }, ⟨hk198, hg198, ha198, hsB⟩, hbk, fun _ _ => rfl⟩
  have h0 : At W g.method c below := by rw [hg]; exact X.here
  obtain ⟨hbeyond, hfreeW⟩ := X.vmMayThrow hsize (.throwNew cls (some text) none) (fun f hf => by cases hf) rfl hRlocals
  have hfr' : W.frames.length + Ps.length + 4 < (e.platform.stackLimits W.me).1 := by have := X.framesAbove hRframes; omega
  have hwd' : (stackUse (.java g :: W.frames.tail)).2 + 13 * Ps.length + 55 ≤ (e.platform.stackLimits W.me).2 := by have := X.stackAbove hsize (K := 13 * Ps.length + 55) (by omega); omega
  have hslots : W.slotsUsed + (stringBytes (stringToUtf16 text)).size + Zs.kS.instanceTypes.size + kX.instanceTypes.size ≤ e.platform.maxSlots := by
    have := X.slotsAbove hRslots
    rw [hn4, hn6]
    omega
  obtain ⟨vm', hW', st⟩ := Steps.vmThrowsMessageColdByV p (s₀ := s) (S := W) (g := g) h0 hexec T L Z LZ M LM X.warmed (t := W.cur) rfl Zs LZs P1 L1 Ps hL hlink1 hlink hsoe hoom hfound hk hinit hord hctor
    (Launch.admits_hotImplicitExceptions X.admits) hbeyond hfreeW htext hlimit hheap (X.cellsAbove hRcells) hslots (hfitv _) (hfitc _)
    (Nn := fun u => u) heapOnly_id (fun _ _ => rfl) (fun _ => rfl) (fun u x y => setCell_twice _ _ _ _) (fun _ => Nat.le_refl _) (cN := ((preparedCellV T.toThrowableT (freshCell P1.m.cls kX) (W.heap.size + 2) u0 sen).withEntry W.cur))
    hsel0 hcellS hknownS hvU tkS (fun _ hu => hu) (fun _ hu => hu) rfl rfl rfl (by simp [preparedCellV, Cell.setSlot, Cell.withEntry]) hskip (fun _ _ hA hW _ hroom _ hrest => L.nativeOff p htr hA hW hroom hrest) hselF hvSen tkC tkP tkM Y.objLocals rfl hfr' hwd'
  rw [plainBareV_eq T.toThrowableT (W.heap.size + 2) u0 sen (.ref (W.heap.size + 1)) W.cur rfl rfl] at st
  obtain ⟨-, -, w3, w4, -, -, -⟩ := withThrown_facts e.platform W Zs text P1.m.cls kX
  have X3 := ((X.pushed (bytesOf Zs.cB (stringToUtf16 text))).pushed (stringAt Zs.cS Zs.kS Zs.fv Zs.fc (stringToUtf16 text) W.heap.size)).pushed (freshCell P1.m.cls kX)
  rw [← withString_eq] at X3
  have X4 := X3.noted hW'
  have ha : (W.heap.size + 2) < ((withThrown W Zs text P1.m.cls kX).setVm vm').heap.size := by show _ < (withThrown W Zs text P1.m.cls kX).heap.size; rw [w3]; omega
  have hcell : ((withThrown W Zs text P1.m.cls kX).setVm vm').heap[(W.heap.size + 2)]? = some (freshCell P1.m.cls kX) := w4
  have X5 := ((((X4.stored hcell T.fCause.slot (.ref (W.heap.size + 2))).storedAgain ha T.fStack.slot u0.v).storedAgain ha T.fSupp.slot sen.v).storedAgain ha T.fStack.slot u0.v).storedAgain ha T.fMsg.slot (.ref (W.heap.size + 1))
  obtain ⟨g₁, hfrM⟩ := X5.frames_eq
  have hU : ((((withThrown W Zs text P1.m.cls kX).setVm vm').setCell (W.heap.size + 2) (plainBareV T.toThrowableT (freshCell P1.m.cls kX) (W.heap.size + 2) u0 sen (.ref (W.heap.size + 1)))).setTop g).pushFrame (.throwing (W.heap.size + 2)) = (((withThrown W Zs text P1.m.cls kX).setVm vm').setCell (W.heap.size + 2) (plainBareV T.toThrowableT (freshCell P1.m.cls kX) (W.heap.size + 2) u0 sen (.ref (W.heap.size + 1)))).setFrames (.throwing (W.heap.size + 2) :: .java g :: below) := by
    rw [State.pushFrame, State.frames_setTop _ hfrM, State.setTop_of_frames _ hfrM, State.setFrames_setFrames]
  have b1 : (bytesOf Zs.cB (stringToUtf16 text)).slots.size = (stringBytes (stringToUtf16 text)).size := by
    rw [(Cell.writeAll_facts _ _).2.2]; simp [bytes0]
  have b2 : (stringAt Zs.cS Zs.kS Zs.fv Zs.fc (stringToUtf16 text) W.heap.size).slots.size = 4 := by simp [string0, Cell.setSlot, hn4]
  have b3 : (freshCell P1.m.cls kX).slots.size = 6 := by simp [hn6]
  rw [b1, b2, b3] at X5
  have e9 : slots + (stringBytes (stringToUtf16 text)).size + 4 + 6 = slots + ((stringBytes (stringToUtf16 text)).size + 4 + 6) := by omega
  rw [e9] at X5
  simp only [List.append_assoc, List.cons_append, List.nil_append] at X5
  refine ⟨((withThrown W Zs text P1.m.cls kX).setVm vm').setCell (W.heap.size + 2) (plainBareV T.toThrowableT (freshCell P1.m.cls kX) (W.heap.size + 2) u0 sen (.ref (W.heap.size + 1))), W.heap.size + 2, _, fun target ht => st _ (by rw [X.tail, ← hU]; exact ht),
    X5.forget (fun y hy => ?_), heapAt_setCell_self _ ha, hfound, rfl⟩
  simp only [List.mem_cons, List.not_mem_nil, or_false] at hy
  have hge : s.heap.size ≤ W.heap.size := X.same.2.1
  rcases hy with rfl | rfl | rfl | rfl | rfl <;> exact Nat.le_trans hge (Nat.le_add_right _ 2)
set_option maxHeartbeats 1000000 in
/-- the machine throws NullPointerException, no traces kept: from its note over the frame g to 'throwing' over the same frame (follows the proof of Stand.vmThrowsNpe, Shelf42/KT2.lean; throwsNpeColdBareVAt, Shelf42/NT91.lean, called) -/
theorem vx_npeAt {p : Program} {l : Launch} {e : Env} {R : Room} {s : State} {m₀ : MethodId} {args : Array Value} {below : List Frame} {meth : Method} {c : Code} {W : State} {locs : List Loc} {cells slots : Nat}
    (X : Stand p l e R s m₀ args below meth c W locs cells slots) (hexec : p.tables.exec = Jvm.exec) (htr : e.platform.stackTraces = false) {n : Nat}
    (h : ∀ a ∈ Bundle.npeArmAtoms n, a.before args s = true)
    (hlocs : ∀ x ∈ locs, ∀ cell, s.heap[x.base]? = some cell → cell.vm.isStatics = false)
    {g : JFrame} (hg : g.method = m₀) (hsize : g.locals.size = c.maxLocals)
    (hRframes : 7 < R.frames) (hRlocals : 2 * g.monitorRoom + (g.stack.map fun v => v.category).sum + 10240 ≤ R.locals)
    (hRcells : cells + 1 ≤ R.cells) (hRslots : slots + n ≤ R.slots) (hlocks : meth.locks = false) :
    ∃ (S : State) (q : Addr) (ce : Cell), (∀ target, Steps p.tables e below ((S.setTop g).pushFrame (.throwing q)) target → Steps p.tables e below ((W.setTop g).pushFrame (.throwNew "java/lang/NullPointerException" none none)) target) ∧
      Stand p l e R s m₀ args below meth c S locs (cells + 1) (slots + n) ∧ S.heap[q]? = some ce ∧ s.vm.findClass "java/lang/NullPointerException" = some ce.cls ∧ ce.vm = .none := by
  have howns : e.platform.frameOwnsMonitors = true := by rw [X.admits.platform]
  have hfin : e.platform.finalization = false := by rw [X.admits.platform]
  have hpl : e.platform.magicAccessors = ({} : Platform).magicAccessors := by rw [X.admits.platform]
  have hpl2 : e.platform.arrayCloneIsPublic = true := by rw [X.admits.platform]
  have a' : ∀ x, x ∈ Bundle.npeArmAtoms n → x.holds args s none s [] = true := fun x hx => h x hx
  obtain ⟨T, Z, L, LZ, Y⟩ := ThrowableC.of_atoms (args := args) howns hfin hpl (fun x hx => h x (by simp [Bundle.npeArmAtoms, hx]))
  obtain ⟨N, LN, hcN, hnNF, hordN, hffS⟩ := NpeC.of_atoms (args := args) hpl hpl2 L Y (fun x hx => h x (by simp [Bundle.npeArmAtoms, hx]))
  obtain ⟨P1, L1, hP1m, hP1s⟩ := PassC.of_atoms (args := args) (s := s) hpl (X := Bundle.nN) (Y := Bundle.rN) (by decide) (by decide) LibCode.NullPointerException.Init0.at_0 LibCode.NullPointerException.Init0.at_1 LibCode.NullPointerException.Init0.at_4 (fun x hx => h x (by simp [Bundle.npeArmAtoms, hx]))
  obtain ⟨PR, LR, hPRm, hPRs⟩ := PassC.of_atoms (args := args) (s := s) hpl (X := Bundle.rN) (Y := Bundle.eN) (by decide) (by decide) LibCode.RuntimeException.Init0.at_0 LibCode.RuntimeException.Init0.at_1 LibCode.RuntimeException.Init0.at_4 (fun x hx => h x (by simp [Bundle.npeArmAtoms, hx]))
  obtain ⟨PE, LEx, hPEm, hPEs⟩ := PassC.of_atoms (args := args) (s := s) hpl (X := Bundle.eN) (Y := Bundle.tN) (by decide) (by decide) LibCode.Exception.Init0.at_0 LibCode.Exception.Init0.at_1 LibCode.Exception.Init0.at_4 (fun x hx => h x (by simp [Bundle.npeArmAtoms, hx]))
  have hfound : s.vm.findClass Bundle.nN = some P1.m.cls := findClass_of_methodNamed hP1m
  have ecls : N.cN = P1.m.cls := Option.some.inj (hcN.symm.trans hfound)
  have hk : s.vm.classes[P1.m.cls]? = some N.kN := by rw [← ecls]; exact LN.cls
  have hinit := Cond.initialized_spec hfound hk (a' (.initialized Bundle.nN) (by simp [Bundle.npeArmAtoms]))
  have hctor : N.kN.findMethod "<init>" "()V" = some P1.m.idx := findMethod_of_methodNamed hP1m hk
  obtain ⟨c1, k1, hc1, hk1, -, -, -, hn⟩ := Cond.instantiable_spec (a' (.instantiable Bundle.nN n) (by simp [Bundle.npeArmAtoms]))
  cases Option.some.inj (hc1.symm.trans hfound)
  cases Option.some.inj (hk1.symm.trans hk)
  have hfsz : (freshCell P1.m.cls N.kN).slots.size = n := by simp [hn]
  have hlink1 : P1.sup = PR.m := Option.some.inj (hP1s.symm.trans hPRm)
  have hlinkR : PR.sup = PE.m := Option.some.inj (hPRs.symm.trans hPEm)
  have hlinkE : PE.sup = Z.m T.toThrowableT := Option.some.inj (hPEs.symm.trans Y.init0)
  have hLs : ∀ P, P ∈ [PR, PE] → P.Links0 e.platform s := fun P hP => by
    simp only [List.mem_cons, List.not_mem_nil, or_false] at hP
    rcases hP with rfl | rfl
    · exact LR
    · exact LEx
  have hsel0 : selectMethod e.platform s.vm P1.m.cls T.fill0 = .method T.fill0 := by
    obtain ⟨c2, r2, m2, q1, q2, q3, q4, -⟩ := Cond.selects_spec (a' (.selects Bundle.nN Bundle.tFill0 Bundle.tFill0) (by simp [Bundle.npeArmAtoms]))
    cases Option.some.inj (q1.symm.trans hfound)
    cases Option.some.inj (q2.symm.trans (State.methodFound?_of_named Y.fill0 (by decide)))
    cases Option.some.inj (q3.symm.trans Y.fill0)
    rw [Launch.admits_selectMethod X.admits]; exact q4
  have hselF : selectMethod e.platform s.vm P1.m.cls T.fill = .method N.fill := by
    obtain ⟨c2, r2, m2, q1, q2, q3, q4, -⟩ := Cond.selects_spec (a' (.selects Bundle.nN Bundle.tFill Bundle.nFill) (by simp [Bundle.npeArmAtoms]))
    cases Option.some.inj (q1.symm.trans hfound)
    cases Option.some.inj (q2.symm.trans (State.methodFound?_of_named Y.fill (by decide)))
    cases Option.some.inj (q3.symm.trans hnNF)
    rw [Launch.admits_selectMethod X.admits]; exact q4
  obtain ⟨cellS0, hcS0, hiss⟩ := Y.statics
  obtain ⟨u0, hu0⟩ := Cond.staticRefV Y.unassigned L.unassignedStatic L.statics hcS0 hiss (a' (.isRef (.static Bundle.tN "UNASSIGNED_STACK" Bundle.steD)) (by simp [Bundle.npeArmAtoms]))
  obtain ⟨sen, hsen⟩ := Cond.staticRefV Y.sentinel L.sentinelStatic L.statics hcS0 hiss (a' (.isRef (.static Bundle.tN "SUPPRESSED_SENTINEL" Bundle.listD)) (by simp [Bundle.npeArmAtoms]))
  obtain ⟨ci198, i198, fB, hk198, hg198, ha198, hsB, -, hnB, htB, hffB⟩ := Cond.ownField (t := .object "java/lang/Object") Y.found L.cls (by decide +kernel) (a' (.fieldLink Bundle.tN 198 Bundle.tN "backtrace" Bundle.objD) (by simp [Bundle.npeArmAtoms])) (a' (.lays Bundle.tN Bundle.tN "backtrace" Bundle.objD) (by simp [Bundle.npeArmAtoms])) e.platform hpl
  obtain ⟨cellS, hcS', heS, -, hkeep⟩ := X.same.2.2.2.2.2 T.aS cellS0 hcS0
  have hcellS : W.heap[T.aS]? = some cellS := hcS'
  have hout' : ∀ i, (⟨T.aS, i⟩ : Loc) ∉ locs := fun i hmem => by
    have := hlocs _ hmem cellS0 hcS0
    rw [hiss] at this; cases this
  have hknownS : cellS.vm ≠ .unknown := by
    rw [heS]; intro hu
    rw [show cellS0.vm = .unknown from hu] at hiss
    cases hiss
  have hvU : cellS.slots[T.fUnassigned.slot]? = some u0.v := by rw [hkeep _ (hout' _)]; exact hu0
  have hvSen : cellS.slots[T.fSentinel.slot]? = some sen.v := by rw [hkeep _ (hout' _)]; exact hsen
  obtain ⟨tyC, dC, hdC, hdnC⟩ := Cond.laysAt hfound hk Y.cause (a' (.lays Bundle.nN Bundle.tN "cause" "Ljava/lang/Throwable;") (by simp [Bundle.npeArmAtoms]))
  obtain ⟨tyS, dS, hdS, hdnS⟩ := Cond.laysAt hfound hk Y.stack (a' (.lays Bundle.nN Bundle.tN "stackTrace" Bundle.steD) (by simp [Bundle.npeArmAtoms]))
  obtain ⟨tyP, dP, hdP, hdnP⟩ := Cond.laysAt hfound hk Y.supp (a' (.lays Bundle.nN Bundle.tN "suppressedExceptions" Bundle.listD) (by simp [Bundle.npeArmAtoms]))
  obtain ⟨tyX, dX, hdX, hdnX⟩ := Cond.laysAt hfound hk hffS (a' (.lays Bundle.nN Bundle.nN "extendedMessageState" "I") (by simp [Bundle.npeArmAtoms, Bundle.npeAtoms]))
  obtain ⟨hnX, htX⟩ := State.fieldFound?_type hffS (t := .int) (by decide +kernel)
  have xC := Cond.laysApart hdC hdX hdnC hdnX (by rw [hnX, Y.causeName]; decide)
  have xS := Cond.laysApart hdS hdX hdnS hdnX (by rw [hnX, Y.stackName]; decide)
  have xP := Cond.laysApart hdP hdX hdnP hdnX (by rw [hnX, Y.suppName]; decide)
  have hv0 : (freshCell P1.m.cls N.kN).slots[N.fState.slot]? = some (.int 0) := by
    have := fresh_default (c := P1.m.cls) tyX
    rw [htX] at this; exact this
  obtain ⟨tyB, dB, hdB, hdnB⟩ := Cond.laysAt hfound hk hffB (a' (.lays Bundle.nN Bundle.tN "backtrace" Bundle.objD) (by simp [Bundle.npeArmAtoms]))
  have bC := Cond.laysApart hdB hdC hdnB hdnC (by rw [hnB, Y.causeName]; decide)
  have bS := Cond.laysApart hdB hdS hdnB hdnS (by rw [hnB, Y.stackName]; decide)
  have bP := Cond.laysApart hdB hdP hdnB hdnP (by rw [hnB, Y.suppName]; decide)
  have bX := Cond.laysApart hdB hdX hdnB hdnX (by rw [hnB, hnX]; decide)
  have hbk : ((npeCell N.toNpeT (preparedCellV T.toThrowableT (freshCell P1.m.cls N.kN) W.heap.size u0 sen) W.cur).withEntry W.cur).slots[fB.slot]? = some .null := by
    have := fresh_default (c := P1.m.cls) tyB
    rw [htB] at this
    simpa [npeCell, preparedCellV, Cell.setSlot, Cell.withEntry, Array.getElem?_setIfInBounds, bC, bS, bP, bX, bC.symm, bS.symm, bP.symm, bX.symm, defaultValue] using this
  have tkC := Takes.of_laid (v := .ref W.heap.size) hk hordN tyC (by rw [Y.causeType]; rfl)
  have tkS := Takes.of_laid (v := u0.v) hk hordN tyS (by rw [Y.stackType]; exact fits_refV_array _ u0)
  have tkP := Takes.of_laid (v := sen.v) hk hordN tyP (by rw [Y.suppType]; exact fits_refV_object _ sen)
  have tkX := Takes.of_laid (v := .int 1) hk hordN tyX (by rw [htX]; rfl)
  have hskip : SkipFacts T e.platform s (fun u => u) u0 ((npeCell N.toNpeT (preparedCellV T.toThrowableT (freshCell P1.m.cls N.kN) W.heap.size u0 sen) W.cur).withEntry W.cur) := ⟨{ ci198 := ci198, i198 := i198, fBack := fB }, ⟨hk198, hg198, ha198, hsB⟩, hbk, fun _ _ => rfl⟩
  obtain ⟨vm', X3, st, -⟩ := X.throwsNpeColdBareVAt hexec hg hsize T L Z LZ N LN P1 L1 [PR, PE] hLs hlink1 ⟨hlinkR, hlinkE, trivial⟩ hfound hk hinit hordN hctor hsel0 hselF hcellS hknownS hvU hvSen
    hv0 xC xS xP tkC tkS tkP tkX Y.objLocals hskip (fun _ _ hA hW _ hroom _ hrest => L.nativeOff p htr hA hW hroom hrest) (by simpa using hRframes) hRlocals (by simp) hRcells (by rw [hn]; exact hRslots)
  have hlt : W.heap.size < ((W.pushCell (freshCell P1.m.cls N.kN)).setVm vm').heap.size := by
    show W.heap.size < (W.pushCell (freshCell P1.m.cls N.kN)).heap.size
    rw [State.heap_size_pushCell]; omega
  rw [hfsz] at X3
  obtain ⟨g₁, hfrM⟩ := X3.frames_eq
  have hU : ((((W.pushCell (freshCell P1.m.cls N.kN)).setVm vm').setCell W.heap.size (npeBareV T.toThrowableT N.toNpeT (freshCell P1.m.cls N.kN) W.heap.size u0 sen)).setTop g).pushFrame (.throwing W.heap.size) = (((W.pushCell (freshCell P1.m.cls N.kN)).setVm vm').setCell W.heap.size (npeBareV T.toThrowableT N.toNpeT (freshCell P1.m.cls N.kN) W.heap.size u0 sen)).setFrames (.throwing W.heap.size :: .java g :: below) := by
    rw [State.pushFrame, State.frames_setTop _ hfrM, State.setTop_of_frames _ hfrM, State.setFrames_setFrames]
  refine ⟨_, W.heap.size, _, fun target ht => st.trans (by rw [← hU]; exact ht), X3.forget (fun y hy => ?_), heapAt_setCell_self _ hlt, hfound, rfl⟩
  simp only [List.mem_cons, List.not_mem_nil, or_false] at hy
  have hge : s.heap.size ≤ W.heap.size := X.same.2.1
  rcases hy with rfl | rfl | rfl | rfl | rfl <;> exact hge
/-- the words of a machine's NullPointerException, but the four that speak of the heap -/
def vx_atN (n : Nat) : List Cond := (Bundle.npeArmAtoms n).filter vx_no
/-- the words of a machine's throw with a message, but the four that speak of the heap -/
def vx_atM (X : String) (names : List String) : List Cond := (Bundle.messageArmAtoms X names).filter vx_no
section
variable {p : Program} {l : Launch} {e : Env} {R : Room} {s : State} {m : MethodId} {args : Array Value} {below : List Frame} {meth : Method} {c : Code} {H : Heap} {locs : List Loc} {cells slots : Nat}
/-- a frame seen from a rebased start, seen from the first start again -/
theorem vx_back9 {T S : State} {R' : Room} {k n : Nat} (X : Stand p l e R s m args below meth c T locs cells slots) (Y : Stand p l e R' ((T.setVm s.vm).setFrames (.invoking m args :: below)) m args below meth c T [] 0 0) (Z : Stand p l e R' ((T.setVm s.vm).setFrames (.invoking m args :: below)) m args below meth c S [] k n) :
    Stand p l e R s m args below meth c S locs (cells + k) (slots + n) := by
  have hW0 : s.WarmedH ((T.setVm s.vm).setFrames (.invoking m args :: below)).vm := State.WarmedH.refl s
  refine { admits := X.admits, cas := X.cas, clock := X.clock, frames := X.frames, room := X.room, hears := X.hears, method := X.method, code := X.code, here := Z.here, tail := Z.tail, warmed := State.WarmedH.trans hW0 Z.warmed, limits := Z.limits.trans (Y.limits.symm.trans X.limits), bytes := Z.bytes.trans (Y.bytes.symm.trans X.bytes), same := ?_ }
  obtain ⟨e1, e2⟩ := Z.same
  rw [State.setFrames_setFrames] at e1
  have h2 : (T.setVm s.vm).sameButNew (S.setVm s.vm) [] k n := ⟨e1, e2⟩
  have h3 := X.same.trans h2
  rw [List.append_nil] at h3
  exact h3
/-- from the machine's note that E is thrown here with this text -/
def vx_Note (p : Program) (l : Launch) (e : Env) (R : Room) (s : State) (m : MethodId) (args : Array Value) (below : List Frame) (meth : Method) (c : Code) (H : Heap) (locs : List Loc) (cells slots : Nat) (Q : State → Prop) (g : JFrame) (E text : String) : Prop :=
  ∀ T : State, T.heap = H → Stand p l e R s m args below meth c T locs cells slots → ∃ t, Steps p.tables e below ((T.setTop g).pushFrame (.throwNew E (some text) none)) t ∧ Q t
theorem vx_vm {pc : Nat} {ls : Array Slot} {rest : List Value} {Q : State → Prop} (hexec : p.tables.exec = Jvm.exec) (hl : l.stackTraces = false) {cls text : String} {names : List String} {nb : Nat} {A : Nat → Prop}
    (hcls : Bundle.fit cls = true) (hnames : ∀ n ∈ names, Bundle.fit n = true) (hsoe : (cls == "java/lang/StackOverflowError") = false) (hoom : (cls == "java/lang/OutOfMemoryError") = false)
    (hat : ∀ w ∈ vx_atM cls names, w.before args s = true) (hgood : ∀ w ∈ vx_atM cls names, vx_ot w = true)
    (hU : vx_Zq Bundle.tN "UNASSIGNED_STACK" Bundle.steD A s s.heap) (hN : vx_Zq Bundle.tN "SUPPRESSED_SENTINEL" Bundle.listD A s s.heap) (hS : va_S A s.heap H locs) (hsize : ls.size = c.maxLocals)
    (htext : (text == notModelled) = false) (hnb : (stringBytes (stringToUtf16 text)).size ≤ nb) (hnb1 : nb ≤ 1000)
    (hRframes : names.length + 4 < R.frames) (hRlocals : (rest.map fun v => v.category).sum + 10240 ≤ R.locals) (hshort : 13 * names.length + 55 ≤ 10240) (hRcells : cells + 3 ≤ R.cells) (hRslots : slots + (nb + 10) ≤ R.slots) (hlocks : meth.locks = false)
    (k : ∀ (H1 : Heap) (q9 : Addr) (ce : Cell), H.size ≤ H1.size → (∀ q : Nat, q < H.size → H1[q]? = H[q]?) → va_S A s.heap H1 locs → H1[q9]? = some ce → ce.vm = .none → s.vm.findClass cls = some ce.cls → vx_W p l e R s m args below meth c H1 locs (cells + 3) (slots + (nb + 10)) Q (F0 m pc ls rest) q9) :
    vx_Note p l e R s m args below meth c H locs cells slots Q (F0 m pc ls rest) cls text := by
  intro T hT X
  have htr : e.platform.stackTraces = false := (show e.platform.stackTraces = l.stackTraces by rw [X.admits.platform]).trans hl
  have Y := vx_rebase X (R' := { frames := R.frames, locals := R.locals, cells := 3, slots := nb + 10 }) (Nat.le_refl _) (Nat.le_refl _) hRcells hRslots
  have hhp : ((T.setVm s.vm).setFrames (.invoking m args :: below)).heap = H := hT
  have hW0 : s.WarmedH ((T.setVm s.vm).setFrames (.invoking m args :: below)).vm := State.WarmedH.refl s
  have hat' : ∀ w ∈ vx_atM cls names, w.before args ((T.setVm s.vm).setFrames (.invoking m args :: below)) = true := fun w hw => vx_ot_at hW0 rfl (hgood w hw) (hat w hw)
  have hU' : vx_Zq Bundle.tN "UNASSIGNED_STACK" Bundle.steD A ((T.setVm s.vm).setFrames (.invoking m args :: below)) ((T.setVm s.vm).setFrames (.invoking m args :: below)).heap := by rw [hhp]; exact vx_Zq.moved hW0.alike (hU.kept hS.2.1)
  have hN' : vx_Zq Bundle.tN "SUPPRESSED_SENTINEL" Bundle.listD A ((T.setVm s.vm).setFrames (.invoking m args :: below)) ((T.setVm s.vm).setFrames (.invoking m args :: below)).heap := by rw [hhp]; exact vx_Zq.moved hW0.alike (hN.kept hS.2.1)
  obtain ⟨S, q, ce, st, Z, hce, hcl', hv⟩ := vx_vmAt Y hexec htr (cls := cls) (names := names) (text := text) hcls hnames hsoe hoom (vx_own hat' (vx_isRefq hU'.1) (vx_isRefq hN'.1) hU'.2.word hN'.2.word) (fun x hx => nomatch hx) htext
    (by rw [Launch.admits_arrayLengthLimit X.admits]; omega) (by rw [Launch.admits_maxHeapBytes X.admits]; simp only [componentBytes]; omega)
    (g := F0 m pc ls rest) rfl hsize hRframes (by show 2 * 0 + (rest.map fun v => v.category).sum + 10240 ≤ R.locals; omega) hshort (by show 0 + 3 ≤ 3; omega) (by show 0 + (_ + 4 + 6) ≤ nb + 10; omega) hlocks
  obtain ⟨f1, f2⟩ := vx_frame Z.same
  have f1' : H.size ≤ S.heap.size := by rw [← hT]; exact f1
  have f2' : ∀ q : Nat, q < H.size → S.heap[q]? = H[q]? := fun q hq => by
    rw [← hT]
    exact f2 q (by rw [← hT] at hq; exact hq) (fun z hz => nomatch hz)
  have X5 := vx_back9 X Y Z
  have X6 : Stand p l e R s m args below meth c S locs (cells + 3) (slots + (nb + 10)) := { X5 with same := X5.same.mono (by omega) (by omega) }
  obtain ⟨t, a1, b1⟩ := k S.heap q ce f1' f2' ⟨Nat.le_trans hS.1 f1', fun q h1 h2 => (f2' q (Nat.lt_of_lt_of_le h1 hS.1)).trans (hS.2.1 q h1 h2), hS.2.2⟩ hce hv hcl' S rfl X6
  exact ⟨t, st t a1, b1⟩
/-- from the machine's note that NullPointerException is thrown here -/
def vx_NoteN (p : Program) (l : Launch) (e : Env) (R : Room) (s : State) (m : MethodId) (args : Array Value) (below : List Frame) (meth : Method) (c : Code) (H : Heap) (locs : List Loc) (cells slots : Nat) (Q : State → Prop) (g : JFrame) : Prop :=
  ∀ T : State, T.heap = H → Stand p l e R s m args below meth c T locs cells slots → ∃ t, Steps p.tables e below ((T.setTop g).pushFrame (.throwNew "java/lang/NullPointerException" none none)) t ∧ Q t
theorem vx_npe {pc : Nat} {ls : Array Slot} {rest : List Value} {Q : State → Prop} (hexec : p.tables.exec = Jvm.exec) (hl : l.stackTraces = false) {nb : Nat} {A : Nat → Prop}
    (hat : ∀ w ∈ vx_atN nb, w.before args s = true) (hgood : ∀ w ∈ vx_atN nb, vx_ot w = true)
    (hU : vx_Zq Bundle.tN "UNASSIGNED_STACK" Bundle.steD A s s.heap) (hN : vx_Zq Bundle.tN "SUPPRESSED_SENTINEL" Bundle.listD A s s.heap) (hS : va_S A s.heap H locs) (hsize : ls.size = c.maxLocals)
    (hRframes : 7 < R.frames) (hRlocals : (rest.map fun v => v.category).sum + 10240 ≤ R.locals) (hRcells : cells + 1 ≤ R.cells) (hRslots : slots + nb ≤ R.slots) (hlocks : meth.locks = false)
    (k : ∀ (H1 : Heap) (q9 : Addr) (ce : Cell), H.size ≤ H1.size → (∀ q : Nat, q < H.size → H1[q]? = H[q]?) → va_S A s.heap H1 locs → H1[q9]? = some ce → ce.vm = .none → s.vm.findClass "java/lang/NullPointerException" = some ce.cls → vx_W p l e R s m args below meth c H1 locs (cells + 1) (slots + nb) Q (F0 m pc ls rest) q9) :
    vx_NoteN p l e R s m args below meth c H locs cells slots Q (F0 m pc ls rest) := by
  intro T hT X
  have htr : e.platform.stackTraces = false := (show e.platform.stackTraces = l.stackTraces by rw [X.admits.platform]).trans hl
  have Y := vx_rebase X (R' := { frames := R.frames, locals := R.locals, cells := 1, slots := nb }) (Nat.le_refl _) (Nat.le_refl _) hRcells hRslots
  have hhp : ((T.setVm s.vm).setFrames (.invoking m args :: below)).heap = H := hT
  have hW0 : s.WarmedH ((T.setVm s.vm).setFrames (.invoking m args :: below)).vm := State.WarmedH.refl s
  have hat' : ∀ w ∈ vx_atN nb, w.before args ((T.setVm s.vm).setFrames (.invoking m args :: below)) = true := fun w hw => vx_ot_at hW0 rfl (hgood w hw) (hat w hw)
  have hU' : vx_Zq Bundle.tN "UNASSIGNED_STACK" Bundle.steD A ((T.setVm s.vm).setFrames (.invoking m args :: below)) ((T.setVm s.vm).setFrames (.invoking m args :: below)).heap := by rw [hhp]; exact vx_Zq.moved hW0.alike (hU.kept hS.2.1)
  have hN' : vx_Zq Bundle.tN "SUPPRESSED_SENTINEL" Bundle.listD A ((T.setVm s.vm).setFrames (.invoking m args :: below)) ((T.setVm s.vm).setFrames (.invoking m args :: below)).heap := by rw [hhp]; exact vx_Zq.moved hW0.alike (hN.kept hS.2.1)
  obtain ⟨S, q, ce, st, Z, hce, hcl', hv⟩ := vx_npeAt Y hexec htr (n := nb) (vx_own hat' (vx_isRefq hU'.1) (vx_isRefq hN'.1) hU'.2.word hN'.2.word) (fun x hx => nomatch hx)
    (g := F0 m pc ls rest) rfl hsize hRframes (by show 2 * 0 + (rest.map fun v => v.category).sum + 10240 ≤ R.locals; omega) (by show 0 + 1 ≤ 1; omega) (by show 0 + nb ≤ nb; omega) hlocks
  obtain ⟨f1, f2⟩ := vx_frame Z.same
  have f1' : H.size ≤ S.heap.size := by rw [← hT]; exact f1
  have f2' : ∀ q : Nat, q < H.size → S.heap[q]? = H[q]? := fun q hq => by
    rw [← hT]
    exact f2 q (by rw [← hT] at hq; exact hq) (fun z hz => nomatch hz)
  have X5 := vx_back9 X Y Z
  have X6 : Stand p l e R s m args below meth c S locs (cells + 1) (slots + nb) := { X5 with same := X5.same.mono (by omega) (by omega) }
  obtain ⟨t, a1, b1⟩ := k S.heap q ce f1' f2' ⟨Nat.le_trans hS.1 f1', fun q h1 h2 => (f2' q (Nat.lt_of_lt_of_le h1 hS.1)).trans (hS.2.1 q h1 h2), hS.2.2⟩ hce hv hcl' S rfl X6
  exact ⟨t, st t a1, b1⟩
variable {Q : State → Prop} {cc : ByteArray} {pc : Nat} {ls : Array Slot} {rest : List Value}
theorem vx_idivZ (hexec : p.tables.exec = Jvm.exec) (hb : c.code = cc) {a b : Int32} (h0 : b = 0) (d : decode cc pc = .ok (.idiv, 1)) (k : vx_Note p l e R s m args below meth c H locs cells slots Q (F0 m pc ls rest) "java/lang/ArithmeticException" "/ by zero") :
    W p l e R s m args below meth c H locs cells slots Q (F0 m pc ls (.int b :: .int a :: rest)) := by
  intro T hT X
  obtain ⟨t, st, q⟩ := k T hT X
  exact ⟨t, X.idivZero hexec (g := F0 m pc ls (.int b :: .int a :: rest)) rfl (a := a) (rest := rest) (by rw [h0]) (by rw [hb]; exact d) t st, q⟩
theorem vx_iremZ (hexec : p.tables.exec = Jvm.exec) (hb : c.code = cc) {a b : Int32} (h0 : b = 0) (d : decode cc pc = .ok (.irem, 1)) (k : vx_Note p l e R s m args below meth c H locs cells slots Q (F0 m pc ls rest) "java/lang/ArithmeticException" "/ by zero") :
    W p l e R s m args below meth c H locs cells slots Q (F0 m pc ls (.int b :: .int a :: rest)) := by
  intro T hT X
  obtain ⟨t, st, q⟩ := k T hT X
  exact ⟨t, X.iremZero hexec (g := F0 m pc ls (.int b :: .int a :: rest)) rfl (a := a) (rest := rest) (by rw [h0]) (by rw [hb]; exact d) t st, q⟩
theorem vx_ldivZ (hexec : p.tables.exec = Jvm.exec) (hb : c.code = cc) {a b : Int64} (h0 : b = 0) (d : decode cc pc = .ok (.ldiv, 1)) (k : vx_Note p l e R s m args below meth c H locs cells slots Q (F0 m pc ls rest) "java/lang/ArithmeticException" "/ by zero") :
    W p l e R s m args below meth c H locs cells slots Q (F0 m pc ls (.long b :: .long a :: rest)) := by
  intro T hT X
  obtain ⟨t, st, q⟩ := k T hT X
  exact ⟨t, X.ldivZero hexec (g := F0 m pc ls (.long b :: .long a :: rest)) rfl (a := a) (rest := rest) (by rw [h0]) (by rw [hb]; exact d) t st, q⟩
theorem vx_lremZ (hexec : p.tables.exec = Jvm.exec) (hb : c.code = cc) {a b : Int64} (h0 : b = 0) (d : decode cc pc = .ok (.lrem, 1)) (k : vx_Note p l e R s m args below meth c H locs cells slots Q (F0 m pc ls rest) "java/lang/ArithmeticException" "/ by zero") :
    W p l e R s m args below meth c H locs cells slots Q (F0 m pc ls (.long b :: .long a :: rest)) := by
  intro T hT X
  obtain ⟨t, st, q⟩ := k T hT X
  exact ⟨t, X.lremZero hexec (g := F0 m pc ls (.long b :: .long a :: rest)) rfl (a := a) (rest := rest) (by rw [h0]) (by rw [hb]; exact d) t st, q⟩
theorem vx_ialdZ {D : va_G} {cl : List vw_C} {ws : va_W} {tys : List (ClassId × FieldType)} {a : Nat} (hexec : p.tables.exec = Jvm.exec) (hb : c.code = cc) (hK : va_K D cl tys s) (hP : va_P D cl ws H) (q0 t0 : Nat) {cA : ClassId} {n : Nat} {f : Nat → Int32} (ha : ws[q0]? = some (a, .inl (cA, n, .inl f))) (ht : tys[t0]? = some (cA, .int)) {i : Int32} (hout : ¬ vp_in i n) (hdg : decode cc pc = .ok (.iaload, 1))
    (k : ∀ tx : String, tx = (toString "Index " ++ toString i ++ toString " out of bounds for length " ++ toString n : String) → vx_Note p l e R s m args below meth c H locs cells slots Q (F0 m pc ls rest) "java/lang/ArrayIndexOutOfBoundsException" tx) : W p l e R s m args below meth c H locs cells slots Q (F0 m pc ls (.int i :: .ref a :: rest)) := by
  intro T hT X
  obtain ⟨t, st, q⟩ := k _ rfl T hT X
  refine ⟨t, ?_, q⟩
  have h1 := X.ialoadOut hexec (by rw [hT]; exact hP q0 _ ha) ((hK.2 t0 _ ht).1 n (fun j => .int (f j))) (j := i) (by show (i < 0 ∨ (arrV _ _ _).slots.size ≤ _); rw [arrV_size]; exact Classical.byContradiction hout) (g := F0 m pc ls (.int i :: .ref a :: rest)) rfl (rest := rest) rfl (by rw [hb]; exact hdg) t
  simp only [arrV_size] at h1
  exact h1 st
theorem vx_iastZ {D : va_G} {cl : List vw_C} {ws : va_W} {tys : List (ClassId × FieldType)} {a : Nat} (hexec : p.tables.exec = Jvm.exec) (hb : c.code = cc) (hK : va_K D cl tys s) (hP : va_P D cl ws H) (q0 t0 : Nat) {cA : ClassId} {n : Nat} {f : Nat → Int32} (ha : ws[q0]? = some (a, .inl (cA, n, .inl f))) (ht : tys[t0]? = some (cA, .int)) {i : Int32} {x : Int32} (hout : ¬ vp_in i n) (hdg : decode cc pc = .ok (.iastore, 1))
    (k : ∀ tx : String, tx = (toString "Index " ++ toString i ++ toString " out of bounds for length " ++ toString n : String) → vx_Note p l e R s m args below meth c H locs cells slots Q (F0 m pc ls rest) "java/lang/ArrayIndexOutOfBoundsException" tx) : W p l e R s m args below meth c H locs cells slots Q (F0 m pc ls (.int x :: .int i :: .ref a :: rest)) := by
  intro T hT X
  obtain ⟨t, st, q⟩ := k _ rfl T hT X
  refine ⟨t, ?_, q⟩
  have h1 := X.iastoreOut hexec (by rw [hT]; exact hP q0 _ ha) ((hK.2 t0 _ ht).1 n (fun j => .int (f j))) (j := i) (by show (i < 0 ∨ (arrV _ _ _).slots.size ≤ _); rw [arrV_size]; exact Classical.byContradiction hout) (g := F0 m pc ls (.int x :: .int i :: .ref a :: rest)) rfl (rest := rest) rfl (by rw [hb]; exact hdg) t
  simp only [arrV_size] at h1
  exact h1 st
theorem vx_baldZ {D : va_G} {cl : List vw_C} {ws : va_W} {tys : List (ClassId × FieldType)} {a : Nat} (hexec : p.tables.exec = Jvm.exec) (hb : c.code = cc) (hK : va_K D cl tys s) (hP : va_P D cl ws H) (q0 t0 : Nat) {cA : ClassId} {n : Nat} {f : Nat → Int32} (ha : ws[q0]? = some (a, .inl (cA, n, .inl f))) (ht : tys[t0]? = some (cA, .byte)) {i : Int32} (hout : ¬ vp_in i n) (hdg : decode cc pc = .ok (.baload, 1))
    (k : ∀ tx : String, tx = (toString "Index " ++ toString i ++ toString " out of bounds for length " ++ toString n : String) → vx_Note p l e R s m args below meth c H locs cells slots Q (F0 m pc ls rest) "java/lang/ArrayIndexOutOfBoundsException" tx) : W p l e R s m args below meth c H locs cells slots Q (F0 m pc ls (.int i :: .ref a :: rest)) := by
  intro T hT X
  obtain ⟨t, st, q⟩ := k _ rfl T hT X
  refine ⟨t, ?_, q⟩
  have h1 := X.baloadOut hexec (by rw [hT]; exact hP q0 _ ha) ((hK.2 t0 _ ht).1 n (fun j => .int (f j))) (j := i) (by show (i < 0 ∨ (arrV _ _ _).slots.size ≤ _); rw [arrV_size]; exact Classical.byContradiction hout) (g := F0 m pc ls (.int i :: .ref a :: rest)) rfl (rest := rest) rfl (by rw [hb]; exact hdg) t
  simp only [arrV_size] at h1
  exact h1 st
theorem vx_bastZ {D : va_G} {cl : List vw_C} {ws : va_W} {tys : List (ClassId × FieldType)} {a : Nat} (hexec : p.tables.exec = Jvm.exec) (hb : c.code = cc) (hK : va_K D cl tys s) (hP : va_P D cl ws H) (q0 t0 : Nat) {cA : ClassId} {n : Nat} {f : Nat → Int32} (ha : ws[q0]? = some (a, .inl (cA, n, .inl f))) (ht : tys[t0]? = some (cA, .byte)) {i : Int32} {x : Int32} (hout : ¬ vp_in i n) (hdg : decode cc pc = .ok (.bastore, 1))
    (k : ∀ tx : String, tx = (toString "Index " ++ toString i ++ toString " out of bounds for length " ++ toString n : String) → vx_Note p l e R s m args below meth c H locs cells slots Q (F0 m pc ls rest) "java/lang/ArrayIndexOutOfBoundsException" tx) : W p l e R s m args below meth c H locs cells slots Q (F0 m pc ls (.int x :: .int i :: .ref a :: rest)) := by
  intro T hT X
  obtain ⟨t, st, q⟩ := k _ rfl T hT X
  refine ⟨t, ?_, q⟩
  have h1 := X.bastoreOut hexec (by rw [hT]; exact hP q0 _ ha) ((hK.2 t0 _ ht).1 n (fun j => .int (f j))) (j := i) (by show (i < 0 ∨ (arrV _ _ _).slots.size ≤ _); rw [arrV_size]; exact Classical.byContradiction hout) (g := F0 m pc ls (.int x :: .int i :: .ref a :: rest)) rfl (rest := rest) rfl (by rw [hb]; exact hdg) t
  simp only [arrV_size] at h1
  exact h1 st
theorem vx_zaldZ {D : va_G} {cl : List vw_C} {ws : va_W} {tys : List (ClassId × FieldType)} {a : Nat} (hexec : p.tables.exec = Jvm.exec) (hb : c.code = cc) (hK : va_K D cl tys s) (hP : va_P D cl ws H) (q0 t0 : Nat) {cA : ClassId} {n : Nat} {f : Nat → Int32} (ha : ws[q0]? = some (a, .inl (cA, n, .inl f))) (ht : tys[t0]? = some (cA, .boolean)) {i : Int32} (hout : ¬ vp_in i n) (hdg : decode cc pc = .ok (.baload, 1))
    (k : ∀ tx : String, tx = (toString "Index " ++ toString i ++ toString " out of bounds for length " ++ toString n : String) → vx_Note p l e R s m args below meth c H locs cells slots Q (F0 m pc ls rest) "java/lang/ArrayIndexOutOfBoundsException" tx) : W p l e R s m args below meth c H locs cells slots Q (F0 m pc ls (.int i :: .ref a :: rest)) := by
  intro T hT X
  obtain ⟨t, st, q⟩ := k _ rfl T hT X
  refine ⟨t, ?_, q⟩
  have h1 := X.baloadOut hexec (by rw [hT]; exact hP q0 _ ha) ((hK.2 t0 _ ht).1 n (fun j => .int (f j))) (j := i) (by show (i < 0 ∨ (arrV _ _ _).slots.size ≤ _); rw [arrV_size]; exact Classical.byContradiction hout) (g := F0 m pc ls (.int i :: .ref a :: rest)) rfl (rest := rest) rfl (by rw [hb]; exact hdg) t
  simp only [arrV_size] at h1
  exact h1 st
theorem vx_zastZ {D : va_G} {cl : List vw_C} {ws : va_W} {tys : List (ClassId × FieldType)} {a : Nat} (hexec : p.tables.exec = Jvm.exec) (hb : c.code = cc) (hK : va_K D cl tys s) (hP : va_P D cl ws H) (q0 t0 : Nat) {cA : ClassId} {n : Nat} {f : Nat → Int32} (ha : ws[q0]? = some (a, .inl (cA, n, .inl f))) (ht : tys[t0]? = some (cA, .boolean)) {i : Int32} {x : Int32} (hout : ¬ vp_in i n) (hdg : decode cc pc = .ok (.bastore, 1))
    (k : ∀ tx : String, tx = (toString "Index " ++ toString i ++ toString " out of bounds for length " ++ toString n : String) → vx_Note p l e R s m args below meth c H locs cells slots Q (F0 m pc ls rest) "java/lang/ArrayIndexOutOfBoundsException" tx) : W p l e R s m args below meth c H locs cells slots Q (F0 m pc ls (.int x :: .int i :: .ref a :: rest)) := by
  intro T hT X
  obtain ⟨t, st, q⟩ := k _ rfl T hT X
  refine ⟨t, ?_, q⟩
  have h1 := X.bastoreOut hexec (by rw [hT]; exact hP q0 _ ha) ((hK.2 t0 _ ht).1 n (fun j => .int (f j))) (j := i) (by show (i < 0 ∨ (arrV _ _ _).slots.size ≤ _); rw [arrV_size]; exact Classical.byContradiction hout) (g := F0 m pc ls (.int x :: .int i :: .ref a :: rest)) rfl (rest := rest) rfl (by rw [hb]; exact hdg) t
  simp only [arrV_size] at h1
  exact h1 st
theorem vx_caldZ {D : va_G} {cl : List vw_C} {ws : va_W} {tys : List (ClassId × FieldType)} {a : Nat} (hexec : p.tables.exec = Jvm.exec) (hb : c.code = cc) (hK : va_K D cl tys s) (hP : va_P D cl ws H) (q0 t0 : Nat) {cA : ClassId} {n : Nat} {f : Nat → Int32} (ha : ws[q0]? = some (a, .inl (cA, n, .inl f))) (ht : tys[t0]? = some (cA, .char)) {i : Int32} (hout : ¬ vp_in i n) (hdg : decode cc pc = .ok (.caload, 1))
    (k : ∀ tx : String, tx = (toString "Index " ++ toString i ++ toString " out of bounds for length " ++ toString n : String) → vx_Note p l e R s m args below meth c H locs cells slots Q (F0 m pc ls rest) "java/lang/ArrayIndexOutOfBoundsException" tx) : W p l e R s m args below meth c H locs cells slots Q (F0 m pc ls (.int i :: .ref a :: rest)) := by
  intro T hT X
  obtain ⟨t, st, q⟩ := k _ rfl T hT X
  refine ⟨t, ?_, q⟩
  have h1 := X.caloadOut hexec (by rw [hT]; exact hP q0 _ ha) ((hK.2 t0 _ ht).1 n (fun j => .int (f j))) (j := i) (by show (i < 0 ∨ (arrV _ _ _).slots.size ≤ _); rw [arrV_size]; exact Classical.byContradiction hout) (g := F0 m pc ls (.int i :: .ref a :: rest)) rfl (rest := rest) rfl (by rw [hb]; exact hdg) t
  simp only [arrV_size] at h1
  exact h1 st
theorem vx_castZ {D : va_G} {cl : List vw_C} {ws : va_W} {tys : List (ClassId × FieldType)} {a : Nat} (hexec : p.tables.exec = Jvm.exec) (hb : c.code = cc) (hK : va_K D cl tys s) (hP : va_P D cl ws H) (q0 t0 : Nat) {cA : ClassId} {n : Nat} {f : Nat → Int32} (ha : ws[q0]? = some (a, .inl (cA, n, .inl f))) (ht : tys[t0]? = some (cA, .char)) {i : Int32} {x : Int32} (hout : ¬ vp_in i n) (hdg : decode cc pc = .ok (.castore, 1))
    (k : ∀ tx : String, tx = (toString "Index " ++ toString i ++ toString " out of bounds for length " ++ toString n : String) → vx_Note p l e R s m args below meth c H locs cells slots Q (F0 m pc ls rest) "java/lang/ArrayIndexOutOfBoundsException" tx) : W p l e R s m args below meth c H locs cells slots Q (F0 m pc ls (.int x :: .int i :: .ref a :: rest)) := by
  intro T hT X
  obtain ⟨t, st, q⟩ := k _ rfl T hT X
  refine ⟨t, ?_, q⟩
  have h1 := X.castoreOut hexec (by rw [hT]; exact hP q0 _ ha) ((hK.2 t0 _ ht).1 n (fun j => .int (f j))) (j := i) (by show (i < 0 ∨ (arrV _ _ _).slots.size ≤ _); rw [arrV_size]; exact Classical.byContradiction hout) (g := F0 m pc ls (.int x :: .int i :: .ref a :: rest)) rfl (rest := rest) rfl (by rw [hb]; exact hdg) t
  simp only [arrV_size] at h1
  exact h1 st
theorem vx_saldZ {D : va_G} {cl : List vw_C} {ws : va_W} {tys : List (ClassId × FieldType)} {a : Nat} (hexec : p.tables.exec = Jvm.exec) (hb : c.code = cc) (hK : va_K D cl tys s) (hP : va_P D cl ws H) (q0 t0 : Nat) {cA : ClassId} {n : Nat} {f : Nat → Int32} (ha : ws[q0]? = some (a, .inl (cA, n, .inl f))) (ht : tys[t0]? = some (cA, .short)) {i : Int32} (hout : ¬ vp_in i n) (hdg : decode cc pc = .ok (.saload, 1))
    (k : ∀ tx : String, tx = (toString "Index " ++ toString i ++ toString " out of bounds for length " ++ toString n : String) → vx_Note p l e R s m args below meth c H locs cells slots Q (F0 m pc ls rest) "java/lang/ArrayIndexOutOfBoundsException" tx) : W p l e R s m args below meth c H locs cells slots Q (F0 m pc ls (.int i :: .ref a :: rest)) := by
  intro T hT X
  obtain ⟨t, st, q⟩ := k _ rfl T hT X
  refine ⟨t, ?_, q⟩
  have h1 := X.saloadOut hexec (by rw [hT]; exact hP q0 _ ha) ((hK.2 t0 _ ht).1 n (fun j => .int (f j))) (j := i) (by show (i < 0 ∨ (arrV _ _ _).slots.size ≤ _); rw [arrV_size]; exact Classical.byContradiction hout) (g := F0 m pc ls (.int i :: .ref a :: rest)) rfl (rest := rest) rfl (by rw [hb]; exact hdg) t
  simp only [arrV_size] at h1
  exact h1 st
theorem vx_sastZ {D : va_G} {cl : List vw_C} {ws : va_W} {tys : List (ClassId × FieldType)} {a : Nat} (hexec : p.tables.exec = Jvm.exec) (hb : c.code = cc) (hK : va_K D cl tys s) (hP : va_P D cl ws H) (q0 t0 : Nat) {cA : ClassId} {n : Nat} {f : Nat → Int32} (ha : ws[q0]? = some (a, .inl (cA, n, .inl f))) (ht : tys[t0]? = some (cA, .short)) {i : Int32} {x : Int32} (hout : ¬ vp_in i n) (hdg : decode cc pc = .ok (.sastore, 1))
    (k : ∀ tx : String, tx = (toString "Index " ++ toString i ++ toString " out of bounds for length " ++ toString n : String) → vx_Note p l e R s m args below meth c H locs cells slots Q (F0 m pc ls rest) "java/lang/ArrayIndexOutOfBoundsException" tx) : W p l e R s m args below meth c H locs cells slots Q (F0 m pc ls (.int x :: .int i :: .ref a :: rest)) := by
  intro T hT X
  obtain ⟨t, st, q⟩ := k _ rfl T hT X
  refine ⟨t, ?_, q⟩
  have h1 := X.sastoreOut hexec (by rw [hT]; exact hP q0 _ ha) ((hK.2 t0 _ ht).1 n (fun j => .int (f j))) (j := i) (by show (i < 0 ∨ (arrV _ _ _).slots.size ≤ _); rw [arrV_size]; exact Classical.byContradiction hout) (g := F0 m pc ls (.int x :: .int i :: .ref a :: rest)) rfl (rest := rest) rfl (by rw [hb]; exact hdg) t
  simp only [arrV_size] at h1
  exact h1 st
theorem vx_laldZ {D : va_G} {cl : List vw_C} {ws : va_W} {tys : List (ClassId × FieldType)} {a : Nat} (hexec : p.tables.exec = Jvm.exec) (hb : c.code = cc) (hK : va_K D cl tys s) (hP : va_P D cl ws H) (q0 t0 : Nat) {cA : ClassId} {n : Nat} {f : Nat → Int64} (ha : ws[q0]? = some (a, .inl (cA, n, .inr (.inl f)))) (ht : tys[t0]? = some (cA, .long)) {i : Int32} (hout : ¬ vp_in i n) (hdg : decode cc pc = .ok (.laload, 1))
    (k : ∀ tx : String, tx = (toString "Index " ++ toString i ++ toString " out of bounds for length " ++ toString n : String) → vx_Note p l e R s m args below meth c H locs cells slots Q (F0 m pc ls rest) "java/lang/ArrayIndexOutOfBoundsException" tx) : W p l e R s m args below meth c H locs cells slots Q (F0 m pc ls (.int i :: .ref a :: rest)) := by
  intro T hT X
  obtain ⟨t, st, q⟩ := k _ rfl T hT X
  refine ⟨t, ?_, q⟩
  have h1 := X.laloadOut hexec (by rw [hT]; exact hP q0 _ ha) ((hK.2 t0 _ ht).1 n (fun j => .long (f j))) (j := i) (by show (i < 0 ∨ (arrV _ _ _).slots.size ≤ _); rw [arrV_size]; exact Classical.byContradiction hout) (g := F0 m pc ls (.int i :: .ref a :: rest)) rfl (rest := rest) rfl (by rw [hb]; exact hdg) t
  simp only [arrV_size] at h1
  exact h1 st
theorem vx_lastZ {D : va_G} {cl : List vw_C} {ws : va_W} {tys : List (ClassId × FieldType)} {a : Nat} (hexec : p.tables.exec = Jvm.exec) (hb : c.code = cc) (hK : va_K D cl tys s) (hP : va_P D cl ws H) (q0 t0 : Nat) {cA : ClassId} {n : Nat} {f : Nat → Int64} (ha : ws[q0]? = some (a, .inl (cA, n, .inr (.inl f)))) (ht : tys[t0]? = some (cA, .long)) {i : Int32} {x : Int64} (hout : ¬ vp_in i n) (hdg : decode cc pc = .ok (.lastore, 1))
    (k : ∀ tx : String, tx = (toString "Index " ++ toString i ++ toString " out of bounds for length " ++ toString n : String) → vx_Note p l e R s m args below meth c H locs cells slots Q (F0 m pc ls rest) "java/lang/ArrayIndexOutOfBoundsException" tx) : W p l e R s m args below meth c H locs cells slots Q (F0 m pc ls (.long x :: .int i :: .ref a :: rest)) := by
  intro T hT X
  obtain ⟨t, st, q⟩ := k _ rfl T hT X
  refine ⟨t, ?_, q⟩
  have h1 := X.lastoreOut hexec (by rw [hT]; exact hP q0 _ ha) ((hK.2 t0 _ ht).1 n (fun j => .long (f j))) (j := i) (by show (i < 0 ∨ (arrV _ _ _).slots.size ≤ _); rw [arrV_size]; exact Classical.byContradiction hout) (g := F0 m pc ls (.long x :: .int i :: .ref a :: rest)) rfl (rest := rest) rfl (by rw [hb]; exact hdg) t
  simp only [arrV_size] at h1
  exact h1 st
theorem vx_faldZ {D : va_G} {cl : List vw_C} {ws : va_W} {tys : List (ClassId × FieldType)} {a : Nat} (hexec : p.tables.exec = Jvm.exec) (hb : c.code = cc) (hK : va_K D cl tys s) (hP : va_P D cl ws H) (q0 t0 : Nat) {cA : ClassId} {n : Nat} {f : Nat → UInt32} (ha : ws[q0]? = some (a, .inl (cA, n, .inr (.inr (.inl f))))) (ht : tys[t0]? = some (cA, .float)) {i : Int32} (hout : ¬ vp_in i n) (hdg : decode cc pc = .ok (.faload, 1))
    (k : ∀ tx : String, tx = (toString "Index " ++ toString i ++ toString " out of bounds for length " ++ toString n : String) → vx_Note p l e R s m args below meth c H locs cells slots Q (F0 m pc ls rest) "java/lang/ArrayIndexOutOfBoundsException" tx) : W p l e R s m args below meth c H locs cells slots Q (F0 m pc ls (.int i :: .ref a :: rest)) := by
  intro T hT X
  obtain ⟨t, st, q⟩ := k _ rfl T hT X
  refine ⟨t, ?_, q⟩
  have h1 := X.faloadOut hexec (by rw [hT]; exact hP q0 _ ha) ((hK.2 t0 _ ht).1 n (fun j => .float (f j))) (j := i) (by show (i < 0 ∨ (arrV _ _ _).slots.size ≤ _); rw [arrV_size]; exact Classical.byContradiction hout) (g := F0 m pc ls (.int i :: .ref a :: rest)) rfl (rest := rest) rfl (by rw [hb]; exact hdg) t
  simp only [arrV_size] at h1
  exact h1 st
theorem vx_fastZ {D : va_G} {cl : List vw_C} {ws : va_W} {tys : List (ClassId × FieldType)} {a : Nat} (hexec : p.tables.exec = Jvm.exec) (hb : c.code = cc) (hK : va_K D cl tys s) (hP : va_P D cl ws H) (q0 t0 : Nat) {cA : ClassId} {n : Nat} {f : Nat → UInt32} (ha : ws[q0]? = some (a, .inl (cA, n, .inr (.inr (.inl f))))) (ht : tys[t0]? = some (cA, .float)) {i : Int32} {x : UInt32} (hout : ¬ vp_in i n) (hdg : decode cc pc = .ok (.fastore, 1))
    (k : ∀ tx : String, tx = (toString "Index " ++ toString i ++ toString " out of bounds for length " ++ toString n : String) → vx_Note p l e R s m args below meth c H locs cells slots Q (F0 m pc ls rest) "java/lang/ArrayIndexOutOfBoundsException" tx) : W p l e R s m args below meth c H locs cells slots Q (F0 m pc ls (.float x :: .int i :: .ref a :: rest)) := by
  intro T hT X
  obtain ⟨t, st, q⟩ := k _ rfl T hT X
  refine ⟨t, ?_, q⟩
  have h1 := X.fastoreOut hexec (by rw [hT]; exact hP q0 _ ha) ((hK.2 t0 _ ht).1 n (fun j => .float (f j))) (j := i) (by show (i < 0 ∨ (arrV _ _ _).slots.size ≤ _); rw [arrV_size]; exact Classical.byContradiction hout) (g := F0 m pc ls (.float x :: .int i :: .ref a :: rest)) rfl (rest := rest) rfl (by rw [hb]; exact hdg) t
  simp only [arrV_size] at h1
  exact h1 st
theorem vx_daldZ {D : va_G} {cl : List vw_C} {ws : va_W} {tys : List (ClassId × FieldType)} {a : Nat} (hexec : p.tables.exec = Jvm.exec) (hb : c.code = cc) (hK : va_K D cl tys s) (hP : va_P D cl ws H) (q0 t0 : Nat) {cA : ClassId} {n : Nat} {f : Nat → UInt64} (ha : ws[q0]? = some (a, .inl (cA, n, .inr (.inr (.inr (.inl f)))))) (ht : tys[t0]? = some (cA, .double)) {i : Int32} (hout : ¬ vp_in i n) (hdg : decode cc pc = .ok (.daload, 1))
    (k : ∀ tx : String, tx = (toString "Index " ++ toString i ++ toString " out of bounds for length " ++ toString n : String) → vx_Note p l e R s m args below meth c H locs cells slots Q (F0 m pc ls rest) "java/lang/ArrayIndexOutOfBoundsException" tx) : W p l e R s m args below meth c H locs cells slots Q (F0 m pc ls (.int i :: .ref a :: rest)) := by
  intro T hT X
  obtain ⟨t, st, q⟩ := k _ rfl T hT X
  refine ⟨t, ?_, q⟩
  have h1 := X.daloadOut hexec (by rw [hT]; exact hP q0 _ ha) ((hK.2 t0 _ ht).1 n (fun j => .double (f j))) (j := i) (by show (i < 0 ∨ (arrV _ _ _).slots.size ≤ _); rw [arrV_size]; exact Classical.byContradiction hout) (g := F0 m pc ls (.int i :: .ref a :: rest)) rfl (rest := rest) rfl (by rw [hb]; exact hdg) t
  simp only [arrV_size] at h1
  exact h1 st
theorem vx_dastZ {D : va_G} {cl : List vw_C} {ws : va_W} {tys : List (ClassId × FieldType)} {a : Nat} (hexec : p.tables.exec = Jvm.exec) (hb : c.code = cc) (hK : va_K D cl tys s) (hP : va_P D cl ws H) (q0 t0 : Nat) {cA : ClassId} {n : Nat} {f : Nat → UInt64} (ha : ws[q0]? = some (a, .inl (cA, n, .inr (.inr (.inr (.inl f)))))) (ht : tys[t0]? = some (cA, .double)) {i : Int32} {x : UInt64} (hout : ¬ vp_in i n) (hdg : decode cc pc = .ok (.dastore, 1))
    (k : ∀ tx : String, tx = (toString "Index " ++ toString i ++ toString " out of bounds for length " ++ toString n : String) → vx_Note p l e R s m args below meth c H locs cells slots Q (F0 m pc ls rest) "java/lang/ArrayIndexOutOfBoundsException" tx) : W p l e R s m args below meth c H locs cells slots Q (F0 m pc ls (.double x :: .int i :: .ref a :: rest)) := by
  intro T hT X
  obtain ⟨t, st, q⟩ := k _ rfl T hT X
  refine ⟨t, ?_, q⟩
  have h1 := X.dastoreOut hexec (by rw [hT]; exact hP q0 _ ha) ((hK.2 t0 _ ht).1 n (fun j => .double (f j))) (j := i) (by show (i < 0 ∨ (arrV _ _ _).slots.size ≤ _); rw [arrV_size]; exact Classical.byContradiction hout) (g := F0 m pc ls (.double x :: .int i :: .ref a :: rest)) rfl (rest := rest) rfl (by rw [hb]; exact hdg) t
  simp only [arrV_size] at h1
  exact h1 st
theorem vx_arraylengthN (hexec : p.tables.exec = Jvm.exec) (hb : c.code = cc) (hdg : decode cc pc = .ok (.arraylength, 1)) (k : vx_NoteN p l e R s m args below meth c H locs cells slots Q (F0 m pc ls rest)) : W p l e R s m args below meth c H locs cells slots Q (F0 m pc ls (.null :: rest)) := by
  intro T hT X
  obtain ⟨t, st, q⟩ := k T hT X
  exact ⟨t, X.arraylengthNull hexec (g := F0 m pc ls (.null :: rest)) rfl (rest := rest) rfl (by rw [hb]; exact hdg) t st, q⟩
theorem vx_ialoadN (hexec : p.tables.exec = Jvm.exec) (hb : c.code = cc) {i : Int32} (hdg : decode cc pc = .ok (.iaload, 1)) (k : vx_NoteN p l e R s m args below meth c H locs cells slots Q (F0 m pc ls rest)) : W p l e R s m args below meth c H locs cells slots Q (F0 m pc ls (.int i :: .null :: rest)) := by
  intro T hT X
  obtain ⟨t, st, q⟩ := k T hT X
  exact ⟨t, X.ialoadNull hexec (g := F0 m pc ls (.int i :: .null :: rest)) rfl (rest := rest) rfl (by rw [hb]; exact hdg) t st, q⟩
theorem vx_laloadN (hexec : p.tables.exec = Jvm.exec) (hb : c.code = cc) {i : Int32} (hdg : decode cc pc = .ok (.laload, 1)) (k : vx_NoteN p l e R s m args below meth c H locs cells slots Q (F0 m pc ls rest)) : W p l e R s m args below meth c H locs cells slots Q (F0 m pc ls (.int i :: .null :: rest)) := by
  intro T hT X
  obtain ⟨t, st, q⟩ := k T hT X
  exact ⟨t, X.laloadNull hexec (g := F0 m pc ls (.int i :: .null :: rest)) rfl (rest := rest) rfl (by rw [hb]; exact hdg) t st, q⟩
theorem vx_faloadN (hexec : p.tables.exec = Jvm.exec) (hb : c.code = cc) {i : Int32} (hdg : decode cc pc = .ok (.faload, 1)) (k : vx_NoteN p l e R s m args below meth c H locs cells slots Q (F0 m pc ls rest)) : W p l e R s m args below meth c H locs cells slots Q (F0 m pc ls (.int i :: .null :: rest)) := by
  intro T hT X
  obtain ⟨t, st, q⟩ := k T hT X
  exact ⟨t, X.faloadNull hexec (g := F0 m pc ls (.int i :: .null :: rest)) rfl (rest := rest) rfl (by rw [hb]; exact hdg) t st, q⟩
theorem vx_daloadN (hexec : p.tables.exec = Jvm.exec) (hb : c.code = cc) {i : Int32} (hdg : decode cc pc = .ok (.daload, 1)) (k : vx_NoteN p l e R s m args below meth c H locs cells slots Q (F0 m pc ls rest)) : W p l e R s m args below meth c H locs cells slots Q (F0 m pc ls (.int i :: .null :: rest)) := by
  intro T hT X
  obtain ⟨t, st, q⟩ := k T hT X
  exact ⟨t, X.daloadNull hexec (g := F0 m pc ls (.int i :: .null :: rest)) rfl (rest := rest) rfl (by rw [hb]; exact hdg) t st, q⟩
theorem vx_aaloadN (hexec : p.tables.exec = Jvm.exec) (hb : c.code = cc) {i : Int32} (hdg : decode cc pc = .ok (.aaload, 1)) (k : vx_NoteN p l e R s m args below meth c H locs cells slots Q (F0 m pc ls rest)) : W p l e R s m args below meth c H locs cells slots Q (F0 m pc ls (.int i :: .null :: rest)) := by
  intro T hT X
  obtain ⟨t, st, q⟩ := k T hT X
  exact ⟨t, X.aaloadNull hexec (g := F0 m pc ls (.int i :: .null :: rest)) rfl (rest := rest) rfl (by rw [hb]; exact hdg) t st, q⟩
theorem vx_baloadN (hexec : p.tables.exec = Jvm.exec) (hb : c.code = cc) {i : Int32} (hdg : decode cc pc = .ok (.baload, 1)) (k : vx_NoteN p l e R s m args below meth c H locs cells slots Q (F0 m pc ls rest)) : W p l e R s m args below meth c H locs cells slots Q (F0 m pc ls (.int i :: .null :: rest)) := by
  intro T hT X
  obtain ⟨t, st, q⟩ := k T hT X
  exact ⟨t, X.baloadNull hexec (g := F0 m pc ls (.int i :: .null :: rest)) rfl (rest := rest) rfl (by rw [hb]; exact hdg) t st, q⟩
theorem vx_caloadN (hexec : p.tables.exec = Jvm.exec) (hb : c.code = cc) {i : Int32} (hdg : decode cc pc = .ok (.caload, 1)) (k : vx_NoteN p l e R s m args below meth c H locs cells slots Q (F0 m pc ls rest)) : W p l e R s m args below meth c H locs cells slots Q (F0 m pc ls (.int i :: .null :: rest)) := by
  intro T hT X
  obtain ⟨t, st, q⟩ := k T hT X
  exact ⟨t, X.caloadNull hexec (g := F0 m pc ls (.int i :: .null :: rest)) rfl (rest := rest) rfl (by rw [hb]; exact hdg) t st, q⟩
theorem vx_saloadN (hexec : p.tables.exec = Jvm.exec) (hb : c.code = cc) {i : Int32} (hdg : decode cc pc = .ok (.saload, 1)) (k : vx_NoteN p l e R s m args below meth c H locs cells slots Q (F0 m pc ls rest)) : W p l e R s m args below meth c H locs cells slots Q (F0 m pc ls (.int i :: .null :: rest)) := by
  intro T hT X
  obtain ⟨t, st, q⟩ := k T hT X
  exact ⟨t, X.saloadNull hexec (g := F0 m pc ls (.int i :: .null :: rest)) rfl (rest := rest) rfl (by rw [hb]; exact hdg) t st, q⟩
theorem vx_iastoreN (hexec : p.tables.exec = Jvm.exec) (hb : c.code = cc) {x : Int32} {i : Int32} (hdg : decode cc pc = .ok (.iastore, 1)) (k : vx_NoteN p l e R s m args below meth c H locs cells slots Q (F0 m pc ls rest)) : W p l e R s m args below meth c H locs cells slots Q (F0 m pc ls (.int x :: .int i :: .null :: rest)) := by
  intro T hT X
  obtain ⟨t, st, q⟩ := k T hT X
  exact ⟨t, X.iastoreNull hexec (g := F0 m pc ls (.int x :: .int i :: .null :: rest)) rfl (rest := rest) rfl (by rw [hb]; exact hdg) t st, q⟩
theorem vx_lastoreN (hexec : p.tables.exec = Jvm.exec) (hb : c.code = cc) {x : Int64} {i : Int32} (hdg : decode cc pc = .ok (.lastore, 1)) (k : vx_NoteN p l e R s m args below meth c H locs cells slots Q (F0 m pc ls rest)) : W p l e R s m args below meth c H locs cells slots Q (F0 m pc ls (.long x :: .int i :: .null :: rest)) := by
  intro T hT X
  obtain ⟨t, st, q⟩ := k T hT X
  exact ⟨t, X.lastoreNull hexec (g := F0 m pc ls (.long x :: .int i :: .null :: rest)) rfl (rest := rest) rfl (by rw [hb]; exact hdg) t st, q⟩
theorem vx_fastoreN (hexec : p.tables.exec = Jvm.exec) (hb : c.code = cc) {x : UInt32} {i : Int32} (hdg : decode cc pc = .ok (.fastore, 1)) (k : vx_NoteN p l e R s m args below meth c H locs cells slots Q (F0 m pc ls rest)) : W p l e R s m args below meth c H locs cells slots Q (F0 m pc ls (.float x :: .int i :: .null :: rest)) := by
  intro T hT X
  obtain ⟨t, st, q⟩ := k T hT X
  exact ⟨t, X.fastoreNull hexec (g := F0 m pc ls (.float x :: .int i :: .null :: rest)) rfl (rest := rest) rfl (by rw [hb]; exact hdg) t st, q⟩
theorem vx_dastoreN (hexec : p.tables.exec = Jvm.exec) (hb : c.code = cc) {x : UInt64} {i : Int32} (hdg : decode cc pc = .ok (.dastore, 1)) (k : vx_NoteN p l e R s m args below meth c H locs cells slots Q (F0 m pc ls rest)) : W p l e R s m args below meth c H locs cells slots Q (F0 m pc ls (.double x :: .int i :: .null :: rest)) := by
  intro T hT X
  obtain ⟨t, st, q⟩ := k T hT X
  exact ⟨t, X.dastoreNull hexec (g := F0 m pc ls (.double x :: .int i :: .null :: rest)) rfl (rest := rest) rfl (by rw [hb]; exact hdg) t st, q⟩
theorem vx_bastoreN (hexec : p.tables.exec = Jvm.exec) (hb : c.code = cc) {x : Int32} {i : Int32} (hdg : decode cc pc = .ok (.bastore, 1)) (k : vx_NoteN p l e R s m args below meth c H locs cells slots Q (F0 m pc ls rest)) : W p l e R s m args below meth c H locs cells slots Q (F0 m pc ls (.int x :: .int i :: .null :: rest)) := by
  intro T hT X
  obtain ⟨t, st, q⟩ := k T hT X
  exact ⟨t, X.bastoreNull hexec (g := F0 m pc ls (.int x :: .int i :: .null :: rest)) rfl (rest := rest) rfl (by rw [hb]; exact hdg) t st, q⟩
theorem vx_castoreN (hexec : p.tables.exec = Jvm.exec) (hb : c.code = cc) {x : Int32} {i : Int32} (hdg : decode cc pc = .ok (.castore, 1)) (k : vx_NoteN p l e R s m args below meth c H locs cells slots Q (F0 m pc ls rest)) : W p l e R s m args below meth c H locs cells slots Q (F0 m pc ls (.int x :: .int i :: .null :: rest)) := by
  intro T hT X
  obtain ⟨t, st, q⟩ := k T hT X
  exact ⟨t, X.castoreNull hexec (g := F0 m pc ls (.int x :: .int i :: .null :: rest)) rfl (rest := rest) rfl (by rw [hb]; exact hdg) t st, q⟩
theorem vx_sastoreN (hexec : p.tables.exec = Jvm.exec) (hb : c.code = cc) {x : Int32} {i : Int32} (hdg : decode cc pc = .ok (.sastore, 1)) (k : vx_NoteN p l e R s m args below meth c H locs cells slots Q (F0 m pc ls rest)) : W p l e R s m args below meth c H locs cells slots Q (F0 m pc ls (.int x :: .int i :: .null :: rest)) := by
  intro T hT X
  obtain ⟨t, st, q⟩ := k T hT X
  exact ⟨t, X.sastoreNull hexec (g := F0 m pc ls (.int x :: .int i :: .null :: rest)) rfl (rest := rest) rfl (by rw [hb]; exact hdg) t st, q⟩
theorem vx_invokeN {own C : String} {index maxL : Nat} {y : MethodName} {bytes : ByteArray} {ret : Option FieldType} (hexec : p.tables.exec = Jvm.exec) (hb : c.code = cc) (hown : s.vm.findClass own = some m.cls) (hlink : (Cond.methodLink own index y).before args s = true) (hinst : (Cond.instanceMethod y).before args s = true) (hcode : (Cond.code y bytes maxL ret).before args s = true) (hsel : (Cond.selects C y y).before args s = true)
    (hx : y.cls ≠ "java/lang/invoke/MethodHandle" ∧ y.cls ≠ "java/lang/invoke/VarHandle") {As : List Value} (hlen : (parseMethodDescriptor y.desc).map (fun d => d.parameters.length) = some As.length) (hdg : decode cc pc = .ok (.invokevirtual index, 3))
    (k : vx_NoteN p l e R s m args below meth c H locs cells slots Q (F0 m pc ls rest)) {st0 : List Value} (hst : st0 = As.reverse ++ .null :: rest) : W p l e R s m args below meth c H locs cells slots Q (F0 m pc ls st0) := by
  intro T hT X
  obtain ⟨r0, r, hn, hrm, hstR, hsigR⟩ := va_Decl.of hinst hcode
  obtain ⟨c2, r2, m2, q1, q2, q3, q4, kP, hkP, hkPi⟩ := Cond.selects_spec hsel
  cases hn.symm.trans q3
  have hl9 : As.length = r.sig.parameters.length := by
    rw [hsigR] at hlen
    exact (Option.some.inj hlen).symm
  obtain ⟨vm', X1, st1⟩ := X.invokevirtualNull hexec hown hlink hn hrm hstR hkP hkPi hx (g := F0 m pc ls st0) rfl (argsL := As) (rest := rest) hl9 hst (by rw [hb]; exact hdg)
  obtain ⟨t, st, q⟩ := k (T.setVm vm') hT X1
  exact ⟨t, st1 t st, q⟩
theorem vx_newarrayZ {atype : ArrayType} (hexec : p.tables.exec = Jvm.exec) (hb : c.code = cc) {n : Int32} (h0 : n < 0) (hdg : decode cc pc = .ok (.newarray atype, 2)) (k : ∀ tx : String, tx = toString n → vx_Note p l e R s m args below meth c H locs cells slots Q (F0 m pc ls rest) "java/lang/NegativeArraySizeException" tx) : W p l e R s m args below meth c H locs cells slots Q (F0 m pc ls (.int n :: rest)) := by
  intro T hT X
  obtain ⟨t, st, q⟩ := k _ rfl T hT X
  exact ⟨t, X.newarrayNegative hexec (g := F0 m pc ls (.int n :: rest)) rfl h0 (rest := rest) rfl (by rw [hb]; exact hdg) t st, q⟩
end
end VXM
/-! ===== END ===== -/
end
section
/-- the words that callees can take over -/
def lw_gd : List Cond := lw_tbl.filter goodWord
/-- words that are kept by every step, though not among the good ones -/
def q_kp : Cond → Bool
  | .castable _ _ => true
  | .declares _ => true
  | .methodLinkNest _ _ _ _ => true
  | _ => false
def lw_ct : List Cond := lw_tbl.filter q_kp
theorem q_kp_warm {w : Cond} (h : q_kp w = true) {s U : State} (hW : s.WarmedH U.vm) (hZ : va_Nw w s) : va_Nw w U := by
  cases w <;> first | (exact va_Nw.warmC hW hZ) | (exact va_Nw.warmD hW hZ) | (exact va_Nw.warmM hW hZ) | (cases h)
theorem q_kp_tab {w : Cond} (h : q_kp w = true) : w.onTables = true := by
  cases w <;> first | rfl | (cases h)
/-! the world as a memory: cell k holds the ints (w k 0), (w k 1) ..; all references are fixed once made -/
abbrev qMem : Type := Nat → Nat → Int32
def qur (w : qMem) (c : Nat) (g : Nat → Int32) : qMem := fun c' => if c' = c then g else w c'
def quw (w : qMem) (c k : Nat) (v : Int32) : qMem := qur w c (upd (w c) k v)
/-- what cell k holds: halls 0..11 (19 cells each), then the class's own cells, then the reference's -/
def qshp (G : Nat → ClassId) (ad : Nat → Nat) (f : Nat → Int32) (k : Nat) : va_E :=
  if k < 228 then
    (if k % 19 = 0 then .inr (3, [.ref (ad (k + 1)), .ref (ad (k + 14)), .int (f 2), .ref (ad (k + 15)), .int (f 4), .int (f 5), .int (f 6), .int (f 7), .int (f 8), .int (f 9), .ref (ad (k + 16)), .ref (ad (k + 17)), .ref (ad (k + 18))])
     else if k % 19 = 1 then .inl (G 3, 12, .inr (.inr (.inr (.inr (fun j => some (ad (k + 1 + j)))))))
     else if k % 19 ≤ 14 then .inr (6, [.int (f 0), .int (f 1), .int (f 2), .int (f 3), .int (f 4), .int (f 5), .int (f 6)])
     else if k % 19 = 15 then .inl (G 0, 8, .inl f)
     else if k % 19 = 17 then .inl (G 0, 5, .inl f)
     else .inl (G 1, 5, .inl f))
  else match k - 228 with
    | 0 => .inr (8, [.ref (ad 0), .ref (ad 19), .ref (ad 38), .ref (ad 229), .ref (ad 231), .ref (ad 236), .int (f 6), .int (f 7), .int (f 8), .int (f 9), .int (f 10)])
    | 1 => .inr (4, [.ref (ad 230), .int (f 1), .int (f 2)])
    | 2 => .inl (G 4, 9, .inr (.inr (.inr (.inr (fun j => some (ad (19 * (3 + j))))))))
    | 3 => .inr (7, [.ref (ad 232), .int (f 1), .ref (ad 233), .ref (ad 234), .ref (ad 235), .int (f 5), .int (f 6)])
    | 4 => .inl (G 2, 60, .inl f)
    | 5 => .inl (G 0, 12, .inl f)
    | 6 => .inl (G 0, 12, .inl f)
    | 7 => .inl (G 0, 12, .inl f)
    | 8 => .inr (5, [.ref (ad 237), .int (f 1)])
    | 9 => .inl (G 2, 16, .inl f)
    | 10 => .inr (9, [.ref (ad 239), .ref (ad 240), .ref (ad 241), .ref (ad 242), .int (f 4), .ref (ad 243), .int (f 6), .int (f 7), .int (f 8), .int (f 9), .int (f 10), .int (f 11), .ref (ad 244), .int (f 13), .ref (ad 245), .int (f 15), .int (f 16), .int (f 17), .int (f 18), .ref (ad 246), .int (f 20)])
    | 11 => .inl (G 0, 99, .inl f)
    | 12 => .inl (G 0, 99, .inl f)
    | 13 => .inl (G 0, 99, .inl f)
    | 14 => .inl (G 0, 99, .inl f)
    | 15 => .inl (G 0, 792, .inl f)
    | 16 => .inl (G 2, 40, .inl f)
    | 17 => .inl (G 2, 60, .inl f)
    | _ => .inl (G 0, 180, .inl f)
def qcells (G : Nat → ClassId) (ad : Nat → Nat) (w : qMem) : va_W := (List.range 247).map (fun k => (ad k, qshp G ad (w k) k))
def qtys (G : Nat → ClassId) : List (ClassId × FieldType) := [(G 0, .int), (G 1, .boolean), (G 2, .char), (G 3, .object RX3), (G 4, .object RX0)]
def qInj (ad : Nat → Nat) : Prop := ∀ i j, i < 247 → j < 247 → ad i = ad j → i = j
def qAdr (ad : Nat → Nat) (sz : Nat) : Nat → Prop := fun q => (∃ k, k < 247 ∧ q = ad k) ∨ sz ≤ q
def qisP (c : Nat) : Prop := c < 228 ∧ 2 ≤ c % 19 ∧ c % 19 ≤ 14
theorem qat (G : Nat → ClassId) (ad : Nat → Nat) (w : qMem) {c : Nat} (h : c < 247) : (qcells G ad w)[c]? = some (ad c, qshp G ad (w c) c) := by
  simp [qcells, List.getElem?_map, List.getElem?_range h]
theorem qset (G : Nat → ClassId) (ad : Nat → Nat) (w : qMem) {c : Nat} (h : c < 247) (g : Nat → Int32) (X : va_E) (hX : X = qshp G ad g c) : (qcells G ad w).set c (ad c, X) = qcells G ad (qur w c g) := by
  subst hX
  apply List.ext_getElem?
  intro i
  by_cases hi : i < 247
  · rw [qat G ad _ hi]
    by_cases e : i = c
    · subst e
      rw [List.getElem?_set_self (by simp [qcells]; exact hi)]
      simp [qur]
    · rw [List.getElem?_set_ne (fun x => e x.symm), qat G ad w hi]
      simp [qur, e]
  · rw [List.getElem?_eq_none (by simp [qcells]; omega), List.getElem?_eq_none (by simp [qcells]; omega)]
theorem qD (G : Nat → ClassId) {ad : Nat → Nat} (w : qMem) (hJ : qInj ad) (sz : Nat) : va_D (qAdr ad sz) (qcells G ad w) := by
  refine ⟨fun i j p q hi hj hpq => ?_, fun k q hk => ?_⟩
  · have li : i < 247 := by have := (List.getElem?_eq_some_iff.mp hi).1; simpa [qcells] using this
    have lj : j < 247 := by have := (List.getElem?_eq_some_iff.mp hj).1; simpa [qcells] using this
    rw [qat G ad w li] at hi
    rw [qat G ad w lj] at hj
    cases hi; cases hj
    exact hJ i j li lj hpq
  · have lk : k < 247 := by have := (List.getElem?_eq_some_iff.mp hk).1; simpa [qcells] using this
    rw [qat G ad w lk] at hk
    cases hk
    exact Or.inl ⟨k, lk, rfl⟩
theorem qAdr_mono {ad : Nat → Nat} {a b : Nat} (h : a ≤ b) : ∀ q, qAdr ad b q → qAdr ad a q := fun q hq => hq.elim Or.inl (fun x => Or.inr (Nat.le_trans h x))
-- the shapes
theorem qsh_hall (G : Nat → ClassId) (ad : Nat → Nat) (f : Nat → Int32) {h : Nat} (hh : h < 12) : qshp G ad f (19 * h) = .inr (3, [.ref (ad (19 * h + 1)), .ref (ad (19 * h + 14)), .int (f 2), .ref (ad (19 * h + 15)), .int (f 4), .int (f 5), .int (f 6), .int (f 7), .int (f 8), .int (f 9), .ref (ad (19 * h + 16)), .ref (ad (19 * h + 17)), .ref (ad (19 * h + 18))]) := by
  unfold qshp; rw [if_pos (by omega), if_pos (by omega)]
theorem qsh_props (G : Nat → ClassId) (ad : Nat → Nat) (f : Nat → Int32) {h : Nat} (hh : h < 12) : qshp G ad f (19 * h + 1) = .inl (G 3, 12, .inr (.inr (.inr (.inr (fun j => some (ad (19 * h + 2 + j))))))) := by
  unfold qshp; rw [if_pos (by omega), if_neg (by omega), if_pos (by omega)]
theorem qsh_planned (G : Nat → ClassId) (ad : Nat → Nat) (f : Nat → Int32) {h : Nat} (hh : h < 12) : qshp G ad f (19 * h + 15) = .inl (G 0, 8, .inl f) := by
  unfold qshp; rw [if_pos (by omega), if_neg (by omega), if_neg (by omega), if_neg (by omega), if_pos (by omega)]
theorem qsh_hasCat (G : Nat → ClassId) (ad : Nat → Nat) (f : Nat → Int32) {h : Nat} (hh : h < 12) : qshp G ad f (19 * h + 16) = .inl (G 1, 5, .inl f) := by
  unfold qshp; rw [if_pos (by omega), if_neg (by omega), if_neg (by omega), if_neg (by omega), if_neg (by omega), if_neg (by omega)]
theorem qsh_reach (G : Nat → ClassId) (ad : Nat → Nat) (f : Nat → Int32) {h : Nat} (hh : h < 12) : qshp G ad f (19 * h + 17) = .inl (G 0, 5, .inl f) := by
  unfold qshp; rw [if_pos (by omega), if_neg (by omega), if_neg (by omega), if_neg (by omega), if_neg (by omega), if_pos (by omega)]
theorem qsh_hasBr (G : Nat → ClassId) (ad : Nat → Nat) (f : Nat → Int32) {h : Nat} (hh : h < 12) : qshp G ad f (19 * h + 18) = .inl (G 1, 5, .inl f) := by
  unfold qshp; rw [if_pos (by omega), if_neg (by omega), if_neg (by omega), if_neg (by omega), if_neg (by omega), if_neg (by omega)]
theorem qsh_prop (G : Nat → ClassId) (ad : Nat → Nat) (f : Nat → Int32) {c : Nat} (hc : qisP c) : qshp G ad f c = .inr (6, [.int (f 0), .int (f 1), .int (f 2), .int (f 3), .int (f 4), .int (f 5), .int (f 6)]) := by
  obtain ⟨h1, h2, h3⟩ := hc
  unfold qshp; rw [if_pos h1, if_neg (by omega), if_neg (by omega), if_pos h3]
theorem qisP_lt {c : Nat} (hc : qisP c) : c < 247 := by have := hc.1; omega
theorem qisP_of {h : Nat} (hh : h < 12) {j : Nat} (hj : j < 13) : qisP (19 * h + 2 + j) := ⟨by omega, by omega, by omega⟩
theorem qisP_no {h : Nat} (hh : h < 12) : qisP (19 * h + 14) := ⟨by omega, by omega, by omega⟩
theorem qisP_in {h : Nat} (hh : h < 12) {i : Int32} (hi : vp_in i 12) : qisP (19 * h + 2 + i.toNatClampNeg) := by
  have : i.toNatClampNeg < 12 := Nat.not_le.mp fun q => hi (Or.inr q)
  exact ⟨by omega, by omega, by omega⟩
theorem qhall_in {i : Int32} (hi : vp_in i 9) : 3 + i.toNatClampNeg < 12 := by
  have : i.toNatClampNeg < 9 := Nat.not_le.mp fun q => hi (Or.inr q)
  omega
-- what stands of the constant texts, of Throwable's two statics, of the nest: kept by every step
/-- the texts whose letters matter, by their places -/
def qtx : List (List Int32) := [[99, 117, 112], [108, 97, 109, 112], [99, 97, 116], [116, 97, 107, 101], [99, 117, 101], [115, 101, 116], [115, 104, 111, 99, 107], [97, 100, 100], [112, 101, 114, 102, 111, 114, 109], [113, 117, 105, 101, 116], [99, 108, 107], [], [32], [99, 117, 112, 32, 108, 97, 109, 112, 32, 99, 97, 116, 32, 116, 97, 107, 101, 32, 99, 117, 101, 32, 115, 101, 116, 32, 115, 104, 111, 99, 107, 32, 97, 100, 100, 32, 112, 101, 114, 102, 111, 114, 109, 32, 113, 117, 105, 101, 116, 32]]
def qstr : List (String × Nat × String × Nat) := [("QuakeRehearsal", 305, "no such floor or measure", 14), ("QuakeRehearsal", 307, "the hall or the floor is full", 15), ("QuakeRehearsal", 69, "no such prop", 16), ("QuakeRehearsal", 76, "the strength is not from 0 to 9", 17), ("QuakeRehearsal", 81, "the cue is refused", 18), ("QuakeRehearsal", 300, "the strength is not from 1 to 9", 19), ("QuakeRehearsal", 309, "the strength is refused", 20), ("QuakeRehearsal", 88, "the programme is empty", 21), ("QuakeRehearsal", 117, "what is not from 0 to 6", 22), ("QuakeRehearsal", 124, "no such place in the programme", 23), ("QuakeRehearsal", 138, "no such strength or floor", 24), ("QuakeRehearsal", 170, "no shock would break something", 25), ("QuakeRehearsal", 303, "no such place in the order", 26), ("QuakeRehearsal", 184, "no such kind or floor", 27), ("QuakeRehearsal", 199, "no such character in the line", 28), ("QuakeRehearsal", 208, "the input contains 60 characters", 29), ("QuakeRehearsal$Script", 74, "cup", 0), ("QuakeRehearsal$Script", 76, "lamp", 1), ("QuakeRehearsal$Script", 78, "cat", 2), ("QuakeRehearsal$Script", 80, "take", 3), ("QuakeRehearsal$Script", 82, "cue", 4), ("QuakeRehearsal$Script", 84, "set", 5), ("QuakeRehearsal$Script", 86, "shock", 6), ("QuakeRehearsal$Script", 88, "add", 7), ("QuakeRehearsal$Script", 90, "perform", 8), ("QuakeRehearsal$Script", 92, "quiet", 9), ("QuakeRehearsal", 218, "the text has an error", 30), ("QuakeRehearsal", 244, "an order is refused", 31), ("QuakeRehearsal", 246, "an order cannot be carried out", 32), ("QuakeRehearsal", 248, "nothing was refused", 33), ("QuakeRehearsal", 271, "what is not from 0 to 12", 34), ("QuakeRehearsal", 285, "there are no cups", 35), ("QuakeRehearsal", 291, "there are no props", 36), ("QuakeRehearsal", 293, "no change can be undone", 37), ("QuakeRehearsal", 298, "there is no snapshot", 38), ("QuakeRehearsalModel", 180, "clk", 10), ("QuakeRehearsalModel", 210, "", 11), ("QuakeRehearsalModel", 212, "cup lamp cat take cue set shock add perform quiet ", 13), ("java/lang/StringLatin1", 151, "", 11), ("java/util/Arrays", 337, " > ", 39), ("java/lang/StringUTF16", 295, "", 11), ("QuakeRehearsalModel", 238, " ", 12)]
def qStr (ad : Nat → Nat) (A : Nat → Prop) (U : State) (H : Heap) : Prop := ∀ i : Nat, i < 14 → va_O "java/lang/String" (ad (1000 + i)) A U H ∧ va_OF "java/lang/String" "coder" "B" (.int 0) (ad (1000 + i)) A U H ∧ va_OF "java/lang/String" "value" "[B" (.ref (ad (2000 + i))) (ad (1000 + i)) A U H ∧ va_T .byte (ad (2000 + i)) (qtx.getD i []).length (fun j => .int ((qtx.getD i []).getD j 0)) A U H
def qX (ad : Nat → Nat) (A : Nat → Prop) (U : State) (H : Heap) : Prop :=
  qStr ad A U H ∧ (∀ r ∈ qstr, vk_R r.1 r.2.1 r.2.2.1 (ad (1000 + r.2.2.2)) U) ∧ vx_Zq Bundle.tN "UNASSIGNED_STACK" Bundle.steD A U H ∧ vx_Zq Bundle.tN "SUPPRESSED_SENTINEL" Bundle.listD A U H ∧ ∀ w ∈ lw_ct, va_Nw w U
theorem qX_go {ad : Nat → Nat} {A B : Nat → Prop} {s U : State} {H H1 : Heap} (h : qX ad A s H) (hW : s.WarmedH U.vm) (hq : ∀ a : Nat, a < H.size → ¬ A a → H1[a]? = H[a]?) (hAB : ∀ q, B q → A q) : qX ad B U H1 := by
  obtain ⟨h1, h2, h3, h4, h5⟩ := h
  refine ⟨fun i hi => ?_, fun r hr => vk_R.warm hW (h2 r hr), ((h3.kept hq).narrow hAB).moved hW.alike, ((h4.kept hq).narrow hAB).moved hW.alike, fun w hw => q_kp_warm (List.mem_filter.mp hw).2 hW (h5 w hw)⟩
  obtain ⟨g1, g2, g3, g4⟩ := h1 i hi
  exact ⟨va_O.moved hW.alike ((g1.kept hq).narrow hAB), va_OF.moved hW.alike ((g2.kept hq).narrow hAB), va_OF.moved hW.alike ((g3.kept hq).narrow hAB), va_T.moved hW.alike ((g4.kept hq).narrow hAB)⟩
theorem qX_same {ad : Nat → Nat} {A : Nat → Prop} {u U : State} {H : Heap} (h : qX ad A u H) (hv : U.vm = u.vm) : qX ad A U H := by
  have ha : u.vm.Alike U.vm := by rw [hv]; exact Vm.Alike.refl _
  obtain ⟨h1, h2, h3, h4, h5⟩ := h
  refine ⟨fun i hi => ?_, fun r hr => vk_R.same hv (h2 r hr), h3.moved ha, h4.moved ha, fun w hw => va_Nw.same (q_kp_tab (List.mem_filter.mp hw).2) hv.symm (h5 w hw)⟩
  obtain ⟨g1, g2, g3, g4⟩ := h1 i hi
  exact ⟨va_O.moved ha g1, va_OF.moved ha g2, va_OF.moved ha g3, va_T.moved ha g4⟩
-- what every walk has at hand
def qCx (p : Program) (c : Code) (cc : ByteArray) (nL : Nat) (s : State) (m : MethodId) (args : Array Value) (meth : Method) (own : String) (D : va_G) (G : Nat → ClassId) (ad : Nat → Nat) : Prop :=
  p.tables.exec = Jvm.exec ∧ c.code = cc ∧ c.maxLocals = nL ∧ s.vm.findClass own = some m.cls ∧ (∀ w ∈ lw_gd, w.before args s = true) ∧ meth.locks = false ∧ va_K D vwCl (qtys G) s ∧ qInj ad ∧ qX ad (qAdr ad s.heap.size) s s.heap
def qRp (D : va_G) (G : Nat → ClassId) (ad : Nat → Nat) (s : State) (w : qMem) (H : Heap) (locs : List Loc) : Prop := va_P D vwCl (qcells G ad w) H ∧ va_S (qAdr ad s.heap.size) s.heap H locs
-- tracking the pure function
def qnm {α β : Type} (e : α) (k : α → β) : β := k e
def qbd {α β : Type} (o : Option α) (k : α → Option β) : Option β := match o with | none => none | some x => k x
theorem qnm_t {α β : Type} {e x : α} {k : α → β} {r : β} (h : qnm e k = r) (ex : x = e) : k x = r := by subst ex; exact h
theorem qbd_s {α β : Type} {o : Option α} {k : α → Option β} {r : β} (h : qbd o k = some r) : ∃ x, o = some x ∧ k x = some r := by
  cases o with
  | none => cases h
  | some x => exact ⟨x, rfl, h⟩
theorem qbd_s2 {α γ β : Type} {o : Option (α × γ)} {k : α × γ → Option β} {r : β} (h : qbd o k = some r) : ∃ x y, o = some (x, y) ∧ k (x, y) = some r := by
  cases o with
  | none => cases h
  | some x => exact ⟨x.1, x.2, rfl, h⟩
theorem qif_t {α : Type} {c : Prop} [Decidable c] {a b r : α} (h : (if c then a else b) = r) (hc : c) : a = r := by rw [if_pos hc] at h; exact h
theorem qif_f {α : Type} {c : Prop} [Decidable c] {a b r : α} (h : (if c then a else b) = r) (hc : ¬ c) : b = r := by rw [if_neg hc] at h; exact h
theorem qgd {α : Type} {c : Prop} [Decidable c] {a : Option α} {r : α} (h : (if c then a else none) = some r) : c ∧ a = some r := by
  by_cases hc : c
  · rw [if_pos hc] at h; exact ⟨hc, h⟩
  · rw [if_neg hc] at h; cases h
theorem qgdn {α : Type} {c : Prop} [Decidable c] {a : Option α} {r : α} (h : (if c then none else a) = some r) : ¬ c ∧ a = some r := by
  by_cases hc : c
  · rw [if_pos hc] at h; cases h
  · rw [if_neg hc] at h; exact ⟨hc, h⟩
def qbd2 {α γ β : Type} (o : Option (α × γ)) (k : α → γ → Option β) : Option β := match o with | none => none | some (x, y) => k x y
theorem qbd2_s {α γ β : Type} {o : Option (α × γ)} {k : α → γ → Option β} {r : β} (h : qbd2 o k = some r) : ∃ x y, o = some (x, y) ∧ k x y = some r := by
  match o, h with
  | none, h => cases h
  | some (x, y), h => exact ⟨x, y, rfl, h⟩
theorem qso {α : Type} {a r : α} (h : some a = some r) : a = r := Option.some.inj h
theorem qso2 {α β : Type} {a r : α} {b t : β} (h : some (a, b) = some (r, t)) : a = r ∧ b = t := by cases h; exact ⟨rfl, rfl⟩
def qin (i : Int32) (n : Nat) : Bool := decide (0 ≤ i.toInt) && decide (i.toInt < n)
theorem qin_t {i : Int32} {n : Nat} (h : qin i n = true) : vp_in i n := by
  simp only [qin, Bool.and_eq_true, decide_eq_true_eq] at h
  exact vp_in_iff.mpr h
def qisPb (c : Nat) : Bool := decide (c < 228) && (decide (2 ≤ c % 19) && decide (c % 19 ≤ 14))
theorem qisPb_ok {c : Nat} (h : qisPb c = true) : qisP c := by
  simp only [qisPb, Bool.and_eq_true, decide_eq_true_eq] at h
  exact ⟨h.1, h.2.1, h.2.2⟩
theorem qne {x k : Int32} {z : Int} (h : ¬ x = k) (hz : k.toInt = z) : x.toInt ≠ z := fun e => h (Int32.toInt_inj.mp (e.trans hz.symm))
def qcpy (sp dp n : Int32) (n0 n1 : Nat) : Bool := decide (¬ sp < 0) && (decide (¬ dp < 0) && (decide (¬ n < 0) && (decide (sp.toNatClampNeg + n.toNatClampNeg ≤ n0) && decide (dp.toNatClampNeg + n.toNatClampNeg ≤ n1))))
def qisB (x : Int32) : Bool := x == 0 || x == 1
def qisC (x : Int32) : Bool := decide (0 ≤ x) && decide (x ≤ 65535)
end
section
def qrm (d mc ms : Nat) : Room := { frames := d, cells := mc, slots := ms, locals := 40 * d }
theorem q_goodIn {y : MethodName} {b : ByteArray} {n : Nat} {r : Option FieldType} (h : Cond.code y b n r ∈ lw_gd) : GoodIn lw_gd (Cond.code y b n r :: lw_gd) := fun w hw => by
  rcases List.mem_cons.mp hw with rfl | hw
  · exact ⟨h, good_of_word (List.mem_filter.mp h).2⟩
  · exact ⟨hw, good_of_word (List.mem_filter.mp hw).2⟩
theorem qisB_ok {x : Int32} (h : qisB x = true) : narrow .boolean (.int x) = .int x ∧ fits .boolean (.int x) = true := by
  simp only [qisB, Bool.or_eq_true, beq_iff_eq] at h
  rcases h with rfl | rfl <;> decide
theorem qisC_ok {x : Int32} (h : qisC x = true) : narrow .char (.int x) = .int x ∧ fits .char (.int x) = true := by
  simp only [qisC, Bool.and_eq_true, decide_eq_true_eq] at h
  obtain ⟨h1, h2⟩ := h
  have h0 : ¬ x < 0 := fun q => by
    have a := Int32.le_iff_toInt_le.mp h1
    have b := Int32.lt_iff_toInt_lt.mp q
    omega
  obtain ⟨j, hj, rfl⟩ := nI_of2 (M := 65535) (n := 65535) (by decide) h0 h2
  exact pk_charN (by omega)
theorem qisC_nar {x : Int32} (h : qisC x = true) : vp_nar .char x = x := by
  have := (qisC_ok h).1
  simp only [vp_nar, this]
abbrev qQI (D : va_G) (G : Nat → ClassId) (ad : Nat → Nat) (s : State) (w1 : qMem) (r : Int32) : Array Value → State → Outcome → State → Prop := va_Qi (S := Unit) (fun r1 _ => r1 = r) (fun _ t => va_P D vwCl (qcells G ad w1) t.heap) (qAdr ad s.heap.size)
abbrev qQV (D : va_G) (G : Nat → ClassId) (ad : Nat → Nat) (s : State) (w1 : qMem) : Array Value → State → Outcome → State → Prop := va_Qv (S := Unit) (fun _ => True) (fun _ t => va_P D vwCl (qcells G ad w1) t.heap) (qAdr ad s.heap.size)
abbrev qQR (D : va_G) (G : Nat → ClassId) (ad : Nat → Nat) (s : State) (w1 : qMem) (x : Nat) : Array Value → State → Outcome → State → Prop := va_Qr (S := Unit) (fun _ => True) (fun _ a t => a = ad x ∧ va_P D vwCl (qcells G ad w1) t.heap) (qAdr ad s.heap.size)
def qpre (D : va_G) (G : Nat → ClassId) (ad : Nat → Nat) (w : qMem) (sz : Nat) (U : State) : Prop := U.heap.size = sz ∧ va_P D vwCl (qcells G ad w) U.heap ∧ va_K D vwCl (qtys G) U ∧ qX ad (qAdr ad sz) U U.heap
def qCM (l : Launch) (D : va_G) (G : Nat → ClassId) (ad : Nat → Nat) (y : MethodName) (cc : ByteArray) (maxL : Nat) (ret : Option FieldType) (d mc ms : Nat) (av : List Value) (w : qMem) (Qc : State → Array Value → State → Outcome → State → Prop) : Prop :=
  ∀ st : State, Met l y (Cond.code y cc maxL ret :: lw_gd) (qrm d mc ms) (va_Pc av (qpre D G ad w st.heap.size)) (Qc st) mc ms (qAdr ad st.heap.size)
abbrev qCMi (l : Launch) (D : va_G) (G : Nat → ClassId) (ad : Nat → Nat) (y : MethodName) (cc : ByteArray) (maxL : Nat) (ret : Option FieldType) (d mc ms : Nat) (av : List Value) (w : qMem) (r : Int32) (w1 : qMem) : Prop := qCM l D G ad y cc maxL ret d mc ms av w (fun st => qQI D G ad st w1 r)
abbrev qCMv (l : Launch) (D : va_G) (G : Nat → ClassId) (ad : Nat → Nat) (y : MethodName) (cc : ByteArray) (maxL : Nat) (ret : Option FieldType) (d mc ms : Nat) (av : List Value) (w : qMem) (w1 : qMem) : Prop := qCM l D G ad y cc maxL ret d mc ms av w (fun st => qQV D G ad st w1)
abbrev qCMr (l : Launch) (D : va_G) (G : Nat → ClassId) (ad : Nat → Nat) (y : MethodName) (cc : ByteArray) (maxL : Nat) (ret : Option FieldType) (d mc ms : Nat) (av : List Value) (w : qMem) (x : Nat) (w1 : qMem) : Prop := qCM l D G ad y cc maxL ret d mc ms av w (fun st => qQR D G ad st w1 x)
theorem qpre_blind {D : va_G} {G : Nat → ClassId} {ad : Nat → Nat} {w : qMem} {sz : Nat} {av : List Value} : FrameBlind (va_Pc av (qpre D G ad w sz)) := by
  intro a U g mk h
  obtain ⟨h1, h2, h3, h4, h5⟩ := h
  exact ⟨h1, h2, h3, va_K.moved (u := U) (U := U.calling g mk a) (Vm.Alike.refl U.vm) h4, qX_same (u := U) (U := U.calling g mk a) h5 rfl⟩
section
variable {p : Program} {l : Launch} {e : Env} {R : Room} {s : State} {m : MethodId} {args : Array Value} {below : List Frame} {meth : Method} {c : Code} {H : Heap} {locs : List Loc} {cells slots : Nat} {Q : State → Prop} {pc nL : Nat} {ls : Array Slot} {rest : List Value} {cc : ByteArray} {own : String} {D : va_G} {G : Nat → ClassId} {ad : Nat → Nat} {w : qMem}
theorem q_get (hC : qCx p c cc nL s m args meth own D G ad) (hR : qRp D G ad s w H locs) {x ci N index : Nat} (k : Nat) {C : String} {T : u_T} {fs : List Value} {v : Value} (hx : x < 247) (hs : qshp G ad (w x) x = .inr (ci, fs)) (hc : vwCl[ci]? = some (C, T, N)) (hin : ∀ q ∈ u_ws C T N, q ∈ lw_gd) (hk : k < N) (hlink : Cond.fieldLink own index (T k).1 (T k).2.1 (T k).2.2.1 ∈ lw_gd) (hv : fs[k]? = some v) (hdg : decode cc pc = .ok (.getfield index, 3))
    (kk : W p l e R s m args below meth c H locs cells slots Q (F0 m (pc + 3) ls (v :: rest))) : W p l e R s m args below meth c H locs cells slots Q (F0 m pc ls (.ref (ad x) :: rest)) := by
  obtain ⟨hx1, hb, hml, hown, hts, hlo, hK, hJ, hX⟩ := hC
  exact va_get hx1 hb hts hin hown hK hR.1 x (by rw [qat G ad w hx, hs]) hc k hk (hts _ hlink) (fun _ h => h) hv hdg kk
theorem q_put (hC : qCx p c cc nL s m args meth own D G ad) (hR : qRp D G ad s w H locs) {x ci N index : Nat} (k : Nat) {C : String} {T : u_T} {fs : (Nat → Int32) → List Value} {v : Int32} {ty : FieldType} (hx : x < 247) (hs : ∀ f, qshp G ad f x = .inr (ci, fs f)) (hset : ∀ f, (fs f).set k (.int v) = fs (upd f k v)) (hl : ∀ f, k < (fs f).length) (hc : vwCl[ci]? = some (C, T, N)) (hin : ∀ q ∈ u_ws C T N, q ∈ lw_gd) (t0 : Nat → FieldType) (hty : ∀ k, k < N → parseFieldDescriptor (T k).2.2.1 = some (t0 k)) (hnm : ∀ a, a < N → ∀ b, b < N → a ≠ b → (T a).2.1 ≠ (T b).2.1) (hk : k < N) (hlink : Cond.fieldLink own index (T k).1 (T k).2.1 (T k).2.2.1 ∈ lw_gd) (hfin : (T k).2.2.2 = false) (hd : parseFieldDescriptor (T k).2.2.1 = some ty) (hn : narrow ty (.int v) = .int v ∧ fits ty (.int v) = true) (hdg : decode cc pc = .ok (.putfield index, 3))
    (kk : ∀ (w1 : qMem) (H1 : Heap) (locs1 : List Loc), w1 = quw w x k v → qRp D G ad s w1 H1 locs1 → W p l e R s m args below meth c H1 locs1 cells slots Q (F0 m (pc + 3) ls rest)) : W p l e R s m args below meth c H locs cells slots Q (F0 m pc ls (.int v :: .ref (ad x) :: rest)) := by
  obtain ⟨hx1, hb, hml, hown, hts, hlo, hK, hJ, hX⟩ := hC
  refine va_put hx1 hb hts hin t0 hty hnm hown hK hR.1 (qD G w hJ _) hR.2 x (by rw [qat G ad w hx, hs]) hc k hk (hts _ hlink) (fun _ h => h) hfin hd hn.1 hn.2 (hl _) hdg (fun H1 locs1 hP hD hS => kk _ H1 locs1 rfl ⟨?_, hS⟩)
  rw [qset G ad w hx _ _ (by rw [hset, hs])] at hP
  exact hP
theorem q_ild (hC : qCx p c cc nL s m args meth own D G ad) (hR : qRp D G ad s w H locs) {x n : Nat} (hx : x < 247) (hs : qshp G ad (w x) x = .inl (G 0, n, .inl (w x))) {i : Int32} {j : Nat} (hin : qin i n = true) (hj : i.toNatClampNeg = j) (hdg : decode cc pc = .ok (.iaload, 1))
    (kk : W p l e R s m args below meth c H locs cells slots Q (F0 m (pc + 1) ls (.int (w x j) :: rest))) : W p l e R s m args below meth c H locs cells slots Q (F0 m pc ls (.int i :: .ref (ad x) :: rest)) := by
  obtain ⟨hx1, hb, hml, hown, hts, hlo, hK, hJ, hX⟩ := hC
  subst hj
  exact va_iald hx1 hb hK hR.1 x 0 (by rw [qat G ad w hx, hs]) rfl (qin_t hin) hdg kk
theorem q_zld (hC : qCx p c cc nL s m args meth own D G ad) (hR : qRp D G ad s w H locs) {x n : Nat} (hx : x < 247) (hs : qshp G ad (w x) x = .inl (G 1, n, .inl (w x))) {i : Int32} {j : Nat} (hin : qin i n = true) (hj : i.toNatClampNeg = j) (hdg : decode cc pc = .ok (.baload, 1))
    (kk : W p l e R s m args below meth c H locs cells slots Q (F0 m (pc + 1) ls (.int (w x j) :: rest))) : W p l e R s m args below meth c H locs cells slots Q (F0 m pc ls (.int i :: .ref (ad x) :: rest)) := by
  obtain ⟨hx1, hb, hml, hown, hts, hlo, hK, hJ, hX⟩ := hC
  subst hj
  exact va_zald hx1 hb hK hR.1 x 1 (by rw [qat G ad w hx, hs]) rfl (qin_t hin) hdg kk
theorem q_cld (hC : qCx p c cc nL s m args meth own D G ad) (hR : qRp D G ad s w H locs) {x n : Nat} (hx : x < 247) (hs : qshp G ad (w x) x = .inl (G 2, n, .inl (w x))) {i : Int32} {j : Nat} (hin : qin i n = true) (hj : i.toNatClampNeg = j) (hdg : decode cc pc = .ok (.caload, 1))
    (kk : W p l e R s m args below meth c H locs cells slots Q (F0 m (pc + 1) ls (.int (w x j) :: rest))) : W p l e R s m args below meth c H locs cells slots Q (F0 m pc ls (.int i :: .ref (ad x) :: rest)) := by
  obtain ⟨hx1, hb, hml, hown, hts, hlo, hK, hJ, hX⟩ := hC
  subst hj
  exact va_cald hx1 hb hK hR.1 x 2 (by rw [qat G ad w hx, hs]) rfl (qin_t hin) hdg kk
theorem q_ist (hC : qCx p c cc nL s m args meth own D G ad) (hR : qRp D G ad s w H locs) {x n : Nat} (hx : x < 247) (hs : ∀ f, qshp G ad f x = .inl (G 0, n, .inl f)) {i v : Int32} {j : Nat} (hin : qin i n = true) (hj : i.toNatClampNeg = j) (hdg : decode cc pc = .ok (.iastore, 1))
    (kk : ∀ (w1 : qMem) (H1 : Heap) (locs1 : List Loc), w1 = quw w x j v → qRp D G ad s w1 H1 locs1 → W p l e R s m args below meth c H1 locs1 cells slots Q (F0 m (pc + 1) ls rest)) : W p l e R s m args below meth c H locs cells slots Q (F0 m pc ls (.int v :: .int i :: .ref (ad x) :: rest)) := by
  obtain ⟨hx1, hb, hml, hown, hts, hlo, hK, hJ, hX⟩ := hC
  subst hj
  refine va_iast hx1 hb hK hR.1 (qD G w hJ _) hR.2 x 0 (by rw [qat G ad w hx, hs]) rfl (qin_t hin) hdg (fun H1 locs1 hP hD hS => kk _ H1 locs1 rfl ⟨?_, hS⟩)
  rw [qset G ad w hx _ _ (by rw [hs])] at hP
  exact hP
theorem q_zst (hC : qCx p c cc nL s m args meth own D G ad) (hR : qRp D G ad s w H locs) {x n : Nat} (hx : x < 247) (hs : ∀ f, qshp G ad f x = .inl (G 1, n, .inl f)) {i v : Int32} {j : Nat} (hin : qin i n = true) (hj : i.toNatClampNeg = j) (hv : vp_nar .boolean v = v) (hdg : decode cc pc = .ok (.bastore, 1))
    (kk : ∀ (w1 : qMem) (H1 : Heap) (locs1 : List Loc), w1 = quw w x j v → qRp D G ad s w1 H1 locs1 → W p l e R s m args below meth c H1 locs1 cells slots Q (F0 m (pc + 1) ls rest)) : W p l e R s m args below meth c H locs cells slots Q (F0 m pc ls (.int v :: .int i :: .ref (ad x) :: rest)) := by
  obtain ⟨hx1, hb, hml, hown, hts, hlo, hK, hJ, hX⟩ := hC
  subst hj
  refine va_zast hx1 hb hK hR.1 (qD G w hJ _) hR.2 x 1 (by rw [qat G ad w hx, hs]) rfl (qin_t hin) hdg (fun H1 locs1 hP hD hS => kk _ H1 locs1 rfl ⟨?_, hS⟩)
  rw [hv, qset G ad w hx _ _ (by rw [hs])] at hP
  exact hP
theorem q_cst (hC : qCx p c cc nL s m args meth own D G ad) (hR : qRp D G ad s w H locs) {x n : Nat} (hx : x < 247) (hs : ∀ f, qshp G ad f x = .inl (G 2, n, .inl f)) {i v : Int32} {j : Nat} (hin : qin i n = true) (hj : i.toNatClampNeg = j) (hv : qisC v = true) (hdg : decode cc pc = .ok (.castore, 1))
    (kk : ∀ (w1 : qMem) (H1 : Heap) (locs1 : List Loc), w1 = quw w x j v → qRp D G ad s w1 H1 locs1 → W p l e R s m args below meth c H1 locs1 cells slots Q (F0 m (pc + 1) ls rest)) : W p l e R s m args below meth c H locs cells slots Q (F0 m pc ls (.int v :: .int i :: .ref (ad x) :: rest)) := by
  obtain ⟨hx1, hb, hml, hown, hts, hlo, hK, hJ, hX⟩ := hC
  subst hj
  refine va_cast hx1 hb hK hR.1 (qD G w hJ _) hR.2 x 2 (by rw [qat G ad w hx, hs]) rfl (qin_t hin) hdg (fun H1 locs1 hP hD hS => kk _ H1 locs1 rfl ⟨?_, hS⟩)
  rw [qisC_nar hv, qset G ad w hx _ _ (by rw [hs])] at hP
  exact hP
theorem q_alen (hC : qCx p c cc nL s m args meth own D G ad) (hR : qRp D G ad s w H locs) {x n t : Nat} {E : (Nat → Int32) ⊕ (Nat → Int64) ⊕ (Nat → UInt32) ⊕ (Nat → UInt64) ⊕ (Nat → Option Nat)} {ty : FieldType} (hx : x < 247) (hs : qshp G ad (w x) x = .inl (G t, n, E)) (ht : (qtys G)[t]? = some (G t, ty)) {v : Int32} (hv : Int32.ofNat n = v) (hdg : decode cc pc = .ok (.arraylength, 1))
    (kk : W p l e R s m args below meth c H locs cells slots Q (F0 m (pc + 1) ls (.int v :: rest))) : W p l e R s m args below meth c H locs cells slots Q (F0 m pc ls (.ref (ad x) :: rest)) := by
  obtain ⟨hx1, hb, hml, hown, hts, hlo, hK, hJ, hX⟩ := hC
  exact va_alen hx1 hb hK hR.1 x t (by rw [qat G ad w hx, hs]) ht hv hdg kk
theorem q_ald (hC : qCx p c cc nL s m args meth own D G ad) (hR : qRp D G ad s w H locs) {x n t : Nat} {f : Nat → Nat} {C : String} (hx : x < 247) (hs : qshp G ad (w x) x = .inl (G t, n, .inr (.inr (.inr (.inr (fun j => some (ad (f j)))))))) (ht : (qtys G)[t]? = some (G t, .object C)) {i : Int32} (hin : qin i n = true) (hdg : decode cc pc = .ok (.aaload, 1))
    (kk : W p l e R s m args below meth c H locs cells slots Q (F0 m (pc + 1) ls (.ref (ad (f i.toNatClampNeg)) :: rest))) : W p l e R s m args below meth c H locs cells slots Q (F0 m pc ls (.int i :: .ref (ad x) :: rest)) := by
  obtain ⟨hx1, hb, hml, hown, hts, hlo, hK, hJ, hX⟩ := hC
  exact va_aldq (f := fun j => some (ad (f j))) hx1 hb hK hR.1 x t (by rw [qat G ad w hx, hs]) ht (qin_t hin) hdg kk
theorem qJ (hC : qCx p c cc nL s m args meth own D G ad) : qInj ad := hC.2.2.2.2.2.2.2.1
theorem qNest (hC : qCx p c cc nL s m args meth own D G ad) : va_Nw (.methodLinkNest RX0 98 yX5_isFloor RX5) s := hC.2.2.2.2.2.2.2.2.2.2.2.2 _ (List.mem_filter.mpr ⟨List.mem_of_getElem? (i := 385) (by decide +kernel), by decide +kernel⟩)
-- ends
theorem q_iret {w1 : qMem} {mc ms : Nat} {v r : Int32} (hC : qCx p c cc nL s m args meth own D G ad) (hR : qRp D G ad s w H locs) {ty : FieldType} (hr : meth.sig.returnType = some ty) (hn : narrow ty (.int v) = .int v) (hv : v = r) (hw : w = w1) (hdg : decode cc pc = .ok (.ireturn, 1)) :
    W p l e R s m args below meth c H locs mc ms (MQ below (qQI D G ad s w1 r) args s mc ms (qAdr ad s.heap.size)) (F0 m pc ls [.int v]) := by
  subst hv; subst hw
  exact W.zret hC.1 hC.2.1 hr hn (fun t ht hW => ⟨⟨v, (), rfl, rfl, by show va_P D vwCl (qcells G ad w) t.heap; rw [ht]; exact hR.1⟩, hR.2.F ht⟩) hR.2.2.2 hdg hC.2.2.2.2.2.1
theorem q_vret {w1 : qMem} {mc ms : Nat} (hC : qCx p c cc nL s m args meth own D G ad) (hR : qRp D G ad s w H locs) (hr : meth.sig.returnType = none) (hw : w = w1) (hdg : decode cc pc = .ok (.return_, 1)) :
    W p l e R s m args below meth c H locs mc ms (MQ below (qQV D G ad s w1) args s mc ms (qAdr ad s.heap.size)) (F0 m pc ls []) := by
  subst hw
  exact W.vret hC.1 hC.2.1 hr (fun t ht hW => ⟨⟨(), rfl, trivial, by show va_P D vwCl (qcells G ad w) t.heap; rw [ht]; exact hR.1⟩, hR.2.F ht⟩) hR.2.2.2 hdg hC.2.2.2.2.2.1
theorem q_aret {w1 : qMem} {mc ms x x1 : Nat} {n : String} (hC : qCx p c cc nL s m args meth own D G ad) (hR : qRp D G ad s w H locs) (hr : meth.sig.returnType = some (.object n)) (hx : x = x1) (hw : w = w1) (hdg : decode cc pc = .ok (.areturn, 1)) :
    W p l e R s m args below meth c H locs mc ms (MQ below (qQR D G ad s w1 x1) args s mc ms (qAdr ad s.heap.size)) (F0 m pc ls [.ref (ad x)]) := by
  subst hw; subst hx
  exact W.aret hC.1 hC.2.1 hr (Or.inl ⟨n, rfl⟩) (Or.inr ⟨_, rfl⟩) (fun t ht hW => ⟨⟨(), ad x, rfl, trivial, rfl, by show va_P D vwCl (qcells G ad w) t.heap; rw [ht]; exact hR.1⟩, hR.2.F ht⟩) hR.2.2.2 hdg hC.2.2.2.2.2.1
-- calls
theorem q_callVi {y : MethodName} {bytes : ByteArray} {maxL d mc ms index x ci : Nat} {ret : Option FieldType} {As st : List Value} {r : Int32} {w1 : qMem} {fs : List Value} {q : vw_C} (hC : qCx p c cc nL s m args meth own D G ad) (hR : qRp D G ad s w H locs)
    (hM : qCMi l D G ad y bytes maxL ret d mc ms (.ref (ad x) :: As) w r w1) (hx : x < 247) (hs : qshp G ad (w x) x = .inr (ci, fs)) (hc : vwCl[ci]? = some q) (hlk : Cond.methodLink own index y ∈ lw_gd) (hin : Cond.instanceMethod y ∈ lw_gd) (hse : Cond.selects q.1 y y ∈ lw_gd) (hini : Cond.initialized y.cls ∈ lw_gd) (hcode : Cond.code y bytes maxL ret ∈ lw_gd)
    (hd : y.cls ≠ "java/lang/invoke/MethodHandle" ∧ y.cls ≠ "java/lang/invoke/VarHandle" ∧ (parseMethodDescriptor y.desc).map (fun d => d.parameters.length) = some As.length) (hroom : d + 1 ≤ R.frames ∧ 8 + (maxL + 11) + 40 * d ≤ R.locals) (hsz : ls.size = nL) (hst : st = As.reverse ++ .ref (ad x) :: rest) (hcat : (rest.map fun v => v.category).sum ≤ 8) (hdg : decode cc pc = .ok (.invokevirtual index, 3)) (hf : cells + mc ≤ R.cells ∧ slots + ms ≤ R.slots)
    (kk : ∀ (H1 : Heap) (locs1 : List Loc), qRp D G ad s w1 H1 locs1 → W p l e R s m args below meth c H1 locs1 (cells + mc) (slots + ms) Q (F0 m (pc + 3) ls (.int r :: rest))) : W p l e R s m args below meth c H locs cells slots Q (F0 m pc ls st) := by
  obtain ⟨hx1, hb, hml, hown, hts, hlo, hK, hJ, hX⟩ := hC
  have hcB : CallB R s args own index y bytes maxL ret (Cond.code y bytes maxL ret :: lw_gd) (qrm d mc ms) mc ms As.length := callB_of As.length hts (q_goodIn hcode) rfl rfl rfl (hts _ hini) (hts _ hlk) hd hroom
  have hS := hR.2
  let sH : State := { s with heap := H }
  refine va_calli (va_runV (As := As) (rest := rest) (C := q.1) (Ts := lw_gd) ⟨hx1, hb, hml, hown, hts⟩ (hM sH) ⟨hcB, hts _ hin, hts _ hse⟩ ⟨qpre_blind, va_recv hK hR.1 (ci := ci) (q0 := x) hc (by rw [qat G ad w hx, hs]), fun U hU hW => ⟨rfl, by rw [hU], by rw [hU]; exact hR.1, va_K.moved hW.alike hK, by rw [hU]; exact qX_go hX hW hS.2.1 (qAdr_mono hS.1)⟩⟩ rfl rfl hsz hst (lv_room hcat) hdg hf) hS (fun q _ h => qAdr_mono hS.1 q h) (qAdr_mono hS.1) (fun r1 u t H1 locs1 ht hvm hw hB hz1 hk1 hS1 => ?_)
  subst hw
  rw [ht] at hB
  exact kk H1 locs1 ⟨hB, hS1⟩
theorem q_callVv {y : MethodName} {bytes : ByteArray} {maxL d mc ms index x ci : Nat} {ret : Option FieldType} {As st : List Value} {w1 : qMem} {fs : List Value} {q : vw_C} (hC : qCx p c cc nL s m args meth own D G ad) (hR : qRp D G ad s w H locs)
    (hM : qCMv l D G ad y bytes maxL ret d mc ms (.ref (ad x) :: As) w w1) (hx : x < 247) (hs : qshp G ad (w x) x = .inr (ci, fs)) (hc : vwCl[ci]? = some q) (hlk : Cond.methodLink own index y ∈ lw_gd) (hin : Cond.instanceMethod y ∈ lw_gd) (hse : Cond.selects q.1 y y ∈ lw_gd) (hini : Cond.initialized y.cls ∈ lw_gd) (hcode : Cond.code y bytes maxL ret ∈ lw_gd)
    (hd : y.cls ≠ "java/lang/invoke/MethodHandle" ∧ y.cls ≠ "java/lang/invoke/VarHandle" ∧ (parseMethodDescriptor y.desc).map (fun d => d.parameters.length) = some As.length) (hroom : d + 1 ≤ R.frames ∧ 8 + (maxL + 11) + 40 * d ≤ R.locals) (hsz : ls.size = nL) (hst : st = As.reverse ++ .ref (ad x) :: rest) (hcat : (rest.map fun v => v.category).sum ≤ 8) (hdg : decode cc pc = .ok (.invokevirtual index, 3)) (hf : cells + mc ≤ R.cells ∧ slots + ms ≤ R.slots)
    (kk : ∀ (H1 : Heap) (locs1 : List Loc), qRp D G ad s w1 H1 locs1 → W p l e R s m args below meth c H1 locs1 (cells + mc) (slots + ms) Q (F0 m (pc + 3) ls rest)) : W p l e R s m args below meth c H locs cells slots Q (F0 m pc ls st) := by
  obtain ⟨hx1, hb, hml, hown, hts, hlo, hK, hJ, hX⟩ := hC
  have hcB : CallB R s args own index y bytes maxL ret (Cond.code y bytes maxL ret :: lw_gd) (qrm d mc ms) mc ms As.length := callB_of As.length hts (q_goodIn hcode) rfl rfl rfl (hts _ hini) (hts _ hlk) hd hroom
  have hS := hR.2
  let sH : State := { s with heap := H }
  refine va_callv (va_runV (As := As) (rest := rest) (C := q.1) (Ts := lw_gd) ⟨hx1, hb, hml, hown, hts⟩ (hM sH) ⟨hcB, hts _ hin, hts _ hse⟩ ⟨qpre_blind, va_recv hK hR.1 (ci := ci) (q0 := x) hc (by rw [qat G ad w hx, hs]), fun U hU hW => ⟨rfl, by rw [hU], by rw [hU]; exact hR.1, va_K.moved hW.alike hK, by rw [hU]; exact qX_go hX hW hS.2.1 (qAdr_mono hS.1)⟩⟩ rfl rfl hsz hst (lv_room hcat) hdg hf) hS (fun q _ h => qAdr_mono hS.1 q h) (qAdr_mono hS.1) (fun u t H1 locs1 ht hvm hw hB hz1 hk1 hS1 => ?_)
  rw [ht] at hB
  exact kk H1 locs1 ⟨hB, hS1⟩
theorem q_callVr {y : MethodName} {bytes : ByteArray} {maxL d mc ms index x ci x1 : Nat} {ret : Option FieldType} {As st : List Value} {w1 : qMem} {fs : List Value} {q : vw_C} (hC : qCx p c cc nL s m args meth own D G ad) (hR : qRp D G ad s w H locs)
    (hM : qCMr l D G ad y bytes maxL ret d mc ms (.ref (ad x) :: As) w x1 w1) (hx : x < 247) (hs : qshp G ad (w x) x = .inr (ci, fs)) (hc : vwCl[ci]? = some q) (hlk : Cond.methodLink own index y ∈ lw_gd) (hin : Cond.instanceMethod y ∈ lw_gd) (hse : Cond.selects q.1 y y ∈ lw_gd) (hini : Cond.initialized y.cls ∈ lw_gd) (hcode : Cond.code y bytes maxL ret ∈ lw_gd)
    (hd : y.cls ≠ "java/lang/invoke/MethodHandle" ∧ y.cls ≠ "java/lang/invoke/VarHandle" ∧ (parseMethodDescriptor y.desc).map (fun d => d.parameters.length) = some As.length) (hroom : d + 1 ≤ R.frames ∧ 8 + (maxL + 11) + 40 * d ≤ R.locals) (hsz : ls.size = nL) (hst : st = As.reverse ++ .ref (ad x) :: rest) (hcat : (rest.map fun v => v.category).sum ≤ 8) (hdg : decode cc pc = .ok (.invokevirtual index, 3)) (hf : cells + mc ≤ R.cells ∧ slots + ms ≤ R.slots)
    (kk : ∀ (H1 : Heap) (locs1 : List Loc), qRp D G ad s w1 H1 locs1 → W p l e R s m args below meth c H1 locs1 (cells + mc) (slots + ms) Q (F0 m (pc + 3) ls (.ref (ad x1) :: rest))) : W p l e R s m args below meth c H locs cells slots Q (F0 m pc ls st) := by
  obtain ⟨hx1, hb, hml, hown, hts, hlo, hK, hJ, hX⟩ := hC
  have hcB : CallB R s args own index y bytes maxL ret (Cond.code y bytes maxL ret :: lw_gd) (qrm d mc ms) mc ms As.length := callB_of As.length hts (q_goodIn hcode) rfl rfl rfl (hts _ hini) (hts _ hlk) hd hroom
  have hS := hR.2
  let sH : State := { s with heap := H }
  refine va_callr (va_runV (As := As) (rest := rest) (C := q.1) (Ts := lw_gd) ⟨hx1, hb, hml, hown, hts⟩ (hM sH) ⟨hcB, hts _ hin, hts _ hse⟩ ⟨qpre_blind, va_recv hK hR.1 (ci := ci) (q0 := x) hc (by rw [qat G ad w hx, hs]), fun U hU hW => ⟨rfl, by rw [hU], by rw [hU]; exact hR.1, va_K.moved hW.alike hK, by rw [hU]; exact qX_go hX hW hS.2.1 (qAdr_mono hS.1)⟩⟩ rfl rfl hsz hst (lv_room hcat) hdg hf) hS (fun q _ h => qAdr_mono hS.1 q h) (qAdr_mono hS.1) (fun u a t H1 locs1 ht hvm hw hB hz1 hk1 hS1 => ?_)
  rw [ht] at hB
  obtain ⟨rfl, hB⟩ := hB
  exact kk H1 locs1 ⟨hB, hS1⟩
theorem q_callSi {y : MethodName} {bytes : ByteArray} {maxL d mc ms index : Nat} {ret : Option FieldType} {As st : List Value} {r : Int32} {w1 : qMem} (hC : qCx p c cc nL s m args meth own D G ad) (hR : qRp D G ad s w H locs)
    (hM : qCMi l D G ad y bytes maxL ret d mc ms As w r w1) (hlk : Cond.methodLink own index y ∈ lw_gd) (hin : Cond.static y ∈ lw_gd) (hini : Cond.initialized y.cls ∈ lw_gd) (hcode : Cond.code y bytes maxL ret ∈ lw_gd)
    (hd : y.cls ≠ "java/lang/invoke/MethodHandle" ∧ y.cls ≠ "java/lang/invoke/VarHandle" ∧ (parseMethodDescriptor y.desc).map (fun d => d.parameters.length) = some As.length) (hroom : d + 1 ≤ R.frames ∧ 8 + (maxL + 11) + 40 * d ≤ R.locals) (hsz : ls.size = nL) (hst : st = As.reverse ++ rest) (hcat : (rest.map fun v => v.category).sum ≤ 8) (hdg : decode cc pc = .ok (.invokestatic index, 3)) (hf : cells + mc ≤ R.cells ∧ slots + ms ≤ R.slots)
    (kk : ∀ (H1 : Heap) (locs1 : List Loc), qRp D G ad s w1 H1 locs1 → W p l e R s m args below meth c H1 locs1 (cells + mc) (slots + ms) Q (F0 m (pc + 3) ls (.int r :: rest))) : W p l e R s m args below meth c H locs cells slots Q (F0 m pc ls st) := by
  obtain ⟨hx1, hb, hml, hown, hts, hlo, hK, hJ, hX⟩ := hC
  have hcB : CallB R s args own index y bytes maxL ret (Cond.code y bytes maxL ret :: lw_gd) (qrm d mc ms) mc ms As.length := callB_of As.length hts (q_goodIn hcode) rfl rfl rfl (hts _ hini) (hts _ hlk) hd hroom
  have hS := hR.2
  let sH : State := { s with heap := H }
  refine va_calli (va_runS (As := As) (rest := rest) (Ts := lw_gd) ⟨hx1, hb, hml, hown, hts⟩ (hM sH) ⟨hcB, hts _ hin⟩ ⟨qpre_blind, fun U hU hW => ⟨rfl, by rw [hU], by rw [hU]; exact hR.1, va_K.moved hW.alike hK, by rw [hU]; exact qX_go hX hW hS.2.1 (qAdr_mono hS.1)⟩⟩ rfl rfl hsz hst (lv_room hcat) hdg hf) hS (fun q _ h => qAdr_mono hS.1 q h) (qAdr_mono hS.1) (fun r1 u t H1 locs1 ht hvm hw hB hz1 hk1 hS1 => ?_)
  subst hw
  rw [ht] at hB
  exact kk H1 locs1 ⟨hB, hS1⟩
theorem q_callSNi {y : MethodName} {bytes : ByteArray} {maxL d mc ms index : Nat} {host : String} {ret : Option FieldType} {As st : List Value} {r : Int32} {w1 : qMem} (hC : qCx p c cc nL s m args meth own D G ad) (hR : qRp D G ad s w H locs)
    (hM : qCMi l D G ad y bytes maxL ret d mc ms As w r w1) (hlk : va_Nw (.methodLinkNest own index y host) s) (hin : Cond.static y ∈ lw_gd) (hini : Cond.initialized y.cls ∈ lw_gd) (hcode : Cond.code y bytes maxL ret ∈ lw_gd)
    (hd : y.cls ≠ "java/lang/invoke/MethodHandle" ∧ y.cls ≠ "java/lang/invoke/VarHandle" ∧ (parseMethodDescriptor y.desc).map (fun d => d.parameters.length) = some As.length) (hroom : d + 1 ≤ R.frames ∧ 8 + (maxL + 11) + 40 * d ≤ R.locals) (hsz : ls.size = nL) (hst : st = As.reverse ++ rest) (hcat : (rest.map fun v => v.category).sum ≤ 8) (hdg : decode cc pc = .ok (.invokestatic index, 3)) (hf : cells + mc ≤ R.cells ∧ slots + ms ≤ R.slots)
    (kk : ∀ (H1 : Heap) (locs1 : List Loc), qRp D G ad s w1 H1 locs1 → W p l e R s m args below meth c H1 locs1 (cells + mc) (slots + ms) Q (F0 m (pc + 3) ls (.int r :: rest))) : W p l e R s m args below meth c H locs cells slots Q (F0 m pc ls st) := by
  obtain ⟨hx1, hb, hml, hown, hts, hlo, hK, hJ, hX⟩ := hC
  have hcB : va_CN R s args own index y host bytes maxL ret (Cond.code y bytes maxL ret :: lw_gd) (qrm d mc ms) mc ms As.length := va_cnB As.length hts (q_goodIn hcode) rfl rfl rfl hlk (hts _ hini) hd hroom
  have hS := hR.2
  let sH : State := { s with heap := H }
  refine va_calli (va_runSN (As := As) (rest := rest) (Ts := lw_gd) ⟨hx1, hb, hml, hown, hts⟩ (hM sH) ⟨hcB, hts _ hin, trivial⟩ ⟨qpre_blind, fun U hU hW => ⟨rfl, by rw [hU], by rw [hU]; exact hR.1, va_K.moved hW.alike hK, by rw [hU]; exact qX_go hX hW hS.2.1 (qAdr_mono hS.1)⟩⟩ rfl rfl hsz hst (lv_room hcat) hdg hf) hS (fun q _ h => qAdr_mono hS.1 q h) (qAdr_mono hS.1) (fun r1 u t H1 locs1 ht hvm hw hB hz1 hk1 hS1 => ?_)
  subst hw
  rw [ht] at hB
  exact kk H1 locs1 ⟨hB, hS1⟩
end
theorem q_start {l : Launch} {D : va_G} {G : Nat → ClassId} {ad : Nat → Nat} {y : MethodName} {cc : ByteArray} {maxL : Nat} {ret : Option FieldType} {d mc ms : Nat} {av : List Value} {w : qMem} {Qc : State → Array Value → State → Outcome → State → Prop} (own : String) (hown : y.cls = own) (hy : plainName y.cls = true) (hJ : qInj ad) (hQ : ∀ s st : State, s.heap.size = st.heap.size → Qc s = Qc st) (hlen : (lg_sl av).length ≤ maxL)
    (body : ∀ (p : Program) (e : Env) (s : State) (m : MethodId) (args : Array Value) (below : List Frame) (meth : Method) (c : Code) (ls : Array Slot), qCx p c cc maxL s m args meth own D G ad → meth.sig.returnType = ret → qRp D G ad s w s.heap [] → lv_has ls maxL (lv_args 0 av) → W p l e (qrm d mc ms) s m args below meth c s.heap [] 0 0 (MQ below (Qc s) args s mc ms (qAdr ad s.heap.size)) (F0 m 0 ls [])) :
    qCM l D G ad y cc maxL ret d mc ms av w Qc := by
  intro st
  refine Met.ofW (cc := cc) (maxL := maxL) (ret := ret) hy rfl ?_
  intro p e s m args below meth c s₁ B hml hv
  obtain ⟨rfl, hsz, hP, hK, hX⟩ := hv
  have hts := atoms_spec (ws := Cond.code y cc maxL ret :: lw_gd) B.pre
  have hC : qCx p c cc maxL s m av.toArray meth own D G ad := ⟨B.exec, B.bytes, hml, by rw [← hown]; exact findClass_of_methodNamed B.named, fun w hw => hts w (List.mem_cons_of_mem _ hw), B.notSynchronized, hK, hJ, by rw [hsz]; exact hX⟩
  have hl := lv_entry av (n := maxL) hlen
  rw [lg_entry_eq]
  have := body p e s m av.toArray below meth c _ hC B.returns ⟨hP, va_S.rf⟩ hl
  rw [hQ s st hsz, hsz] at this
  exact this
end
section
theorem qk_ac1 : Cond.native arraycopyName ∈ lw_gd := List.mem_filter.mpr ⟨List.mem_of_getElem? (i := 1207) (by decide +kernel), by decide +kernel⟩
theorem qk_ac2 : Cond.static arraycopyName ∈ lw_gd := List.mem_filter.mpr ⟨List.mem_of_getElem? (i := 1206) (by decide +kernel), by decide +kernel⟩
theorem qk_ac3 : Cond.initialized "java/lang/System" ∈ lw_gd := List.mem_filter.mpr ⟨List.mem_of_getElem? (i := 71) (by decide +kernel), by decide +kernel⟩
theorem qin_X0 : ∀ q ∈ u_ws RX0 TX0 13, q ∈ lw_gd := by decide +kernel
theorem qin_X1 : ∀ q ∈ u_ws RX1 TX1 3, q ∈ lw_gd := by decide +kernel
theorem qin_X2 : ∀ q ∈ u_ws RX2 TX2 2, q ∈ lw_gd := by decide +kernel
theorem qin_X3 : ∀ q ∈ u_ws RX3 TX3 7, q ∈ lw_gd := by decide +kernel
theorem qin_X4 : ∀ q ∈ u_ws RX4 TX4 7, q ∈ lw_gd := by decide +kernel
theorem qin_X5 : ∀ q ∈ u_ws RX5 TX5 11, q ∈ lw_gd := by decide +kernel
theorem qin_X6 : ∀ q ∈ u_ws RX6 TX6 21, q ∈ lw_gd := by decide +kernel
def qfs_X0 (ad : Nat → Nat) (h : Nat) (f : Nat → Int32) : List Value := [.ref (ad (19 * h + 1)), .ref (ad (19 * h + 14)), .int (f 2), .ref (ad (19 * h + 15)), .int (f 4), .int (f 5), .int (f 6), .int (f 7), .int (f 8), .int (f 9), .ref (ad (19 * h + 16)), .ref (ad (19 * h + 17)), .ref (ad (19 * h + 18))]
def qfs_X1 (ad : Nat → Nat) (f : Nat → Int32) : List Value := [.ref (ad 230), .int (f 1), .int (f 2)]
def qfs_X2 (ad : Nat → Nat) (f : Nat → Int32) : List Value := [.ref (ad 237), .int (f 1)]
def qfs_X3 (ad : Nat → Nat) (f : Nat → Int32) : List Value := [.int (f 0), .int (f 1), .int (f 2), .int (f 3), .int (f 4), .int (f 5), .int (f 6)]
def qfs_X4 (ad : Nat → Nat) (f : Nat → Int32) : List Value := [.ref (ad 232), .int (f 1), .ref (ad 233), .ref (ad 234), .ref (ad 235), .int (f 5), .int (f 6)]
def qfs_X5 (ad : Nat → Nat) (f : Nat → Int32) : List Value := [.ref (ad 0), .ref (ad 19), .ref (ad 38), .ref (ad 229), .ref (ad 231), .ref (ad 236), .int (f 6), .int (f 7), .int (f 8), .int (f 9), .int (f 10)]
def qfs_X6 (ad : Nat → Nat) (f : Nat → Int32) : List Value := [.ref (ad 239), .ref (ad 240), .ref (ad 241), .ref (ad 242), .int (f 4), .ref (ad 243), .int (f 6), .int (f 7), .int (f 8), .int (f 9), .int (f 10), .int (f 11), .ref (ad 244), .int (f 13), .ref (ad 245), .int (f 15), .int (f 16), .int (f 17), .int (f 18), .ref (ad 246), .int (f 20)]
theorem qsh_229 (G : Nat → ClassId) (ad : Nat → Nat) (f : Nat → Int32) : qshp G ad f 229 = .inr (4, qfs_X1 ad f) := rfl
theorem qsh_236 (G : Nat → ClassId) (ad : Nat → Nat) (f : Nat → Int32) : qshp G ad f 236 = .inr (5, qfs_X2 ad f) := rfl
theorem qsh_231 (G : Nat → ClassId) (ad : Nat → Nat) (f : Nat → Int32) : qshp G ad f 231 = .inr (7, qfs_X4 ad f) := rfl
theorem qsh_228 (G : Nat → ClassId) (ad : Nat → Nat) (f : Nat → Int32) : qshp G ad f 228 = .inr (8, qfs_X5 ad f) := rfl
theorem qsh_238 (G : Nat → ClassId) (ad : Nat → Nat) (f : Nat → Int32) : qshp G ad f 238 = .inr (9, qfs_X6 ad f) := rfl
theorem qsh_230 (G : Nat → ClassId) (ad : Nat → Nat) (f : Nat → Int32) : qshp G ad f 230 = .inl (G 4, 9, .inr (.inr (.inr (.inr (fun j => some (ad (19 * (3 + j)))))))) := rfl
theorem qsh_232 (G : Nat → ClassId) (ad : Nat → Nat) (f : Nat → Int32) : qshp G ad f 232 = .inl (G 2, 60, .inl f) := rfl
theorem qsh_233 (G : Nat → ClassId) (ad : Nat → Nat) (f : Nat → Int32) : qshp G ad f 233 = .inl (G 0, 12, .inl f) := rfl
theorem qsh_234 (G : Nat → ClassId) (ad : Nat → Nat) (f : Nat → Int32) : qshp G ad f 234 = .inl (G 0, 12, .inl f) := rfl
theorem qsh_235 (G : Nat → ClassId) (ad : Nat → Nat) (f : Nat → Int32) : qshp G ad f 235 = .inl (G 0, 12, .inl f) := rfl
theorem qsh_237 (G : Nat → ClassId) (ad : Nat → Nat) (f : Nat → Int32) : qshp G ad f 237 = .inl (G 2, 16, .inl f) := rfl
theorem qsh_239 (G : Nat → ClassId) (ad : Nat → Nat) (f : Nat → Int32) : qshp G ad f 239 = .inl (G 0, 99, .inl f) := rfl
theorem qsh_240 (G : Nat → ClassId) (ad : Nat → Nat) (f : Nat → Int32) : qshp G ad f 240 = .inl (G 0, 99, .inl f) := rfl
theorem qsh_241 (G : Nat → ClassId) (ad : Nat → Nat) (f : Nat → Int32) : qshp G ad f 241 = .inl (G 0, 99, .inl f) := rfl
theorem qsh_242 (G : Nat → ClassId) (ad : Nat → Nat) (f : Nat → Int32) : qshp G ad f 242 = .inl (G 0, 99, .inl f) := rfl
theorem qsh_243 (G : Nat → ClassId) (ad : Nat → Nat) (f : Nat → Int32) : qshp G ad f 243 = .inl (G 0, 792, .inl f) := rfl
theorem qsh_244 (G : Nat → ClassId) (ad : Nat → Nat) (f : Nat → Int32) : qshp G ad f 244 = .inl (G 2, 40, .inl f) := rfl
theorem qsh_245 (G : Nat → ClassId) (ad : Nat → Nat) (f : Nat → Int32) : qshp G ad f 245 = .inl (G 2, 60, .inl f) := rfl
theorem qsh_246 (G : Nat → ClassId) (ad : Nat → Nat) (f : Nat → Int32) : qshp G ad f 246 = .inl (G 0, 180, .inl f) := rfl
section
variable {p : Program} {l : Launch} {e : Env} {R : Room} {s : State} {m : MethodId} {args : Array Value} {below : List Frame} {meth : Method} {c0 : Code} {H : Heap} {locs : List Loc} {cells slots : Nat} {Q : State → Prop} {pc nL : Nat} {ls : Array Slot} {rest : List Value} {cc : ByteArray} {own : String} {D : va_G} {G : Nat → ClassId} {ad : Nat → Nat} {w : qMem}
theorem qget_X0_0 (hC : qCx p c0 cc nL s m args meth own D G ad) (hR : qRp D G ad s w H locs) {h : Nat} (hh : h < 12) {index : Nat} (hlink : Cond.fieldLink own index "QuakeRehearsal$Hall" "props" "[LQuakeRehearsal$Prop;" ∈ lw_gd) (hdg : decode cc pc = .ok (.getfield index, 3)) (kk : W p l e R s m args below meth c0 H locs cells slots Q (F0 m (pc + 3) ls (.ref (ad (19 * h + 1)) :: rest))) : W p l e R s m args below meth c0 H locs cells slots Q (F0 m pc ls (.ref (ad (19 * h)) :: rest)) :=
  q_get hC hR 0 (C := RX0) (T := TX0) (N := 13) (by omega) (qsh_hall G ad _ hh) rfl qin_X0 (by decide) hlink rfl hdg kk
theorem qget_X0_1 (hC : qCx p c0 cc nL s m args meth own D G ad) (hR : qRp D G ad s w H locs) {h : Nat} (hh : h < 12) {index : Nat} (hlink : Cond.fieldLink own index "QuakeRehearsal$Hall" "nobody" "LQuakeRehearsal$Prop;" ∈ lw_gd) (hdg : decode cc pc = .ok (.getfield index, 3)) (kk : W p l e R s m args below meth c0 H locs cells slots Q (F0 m (pc + 3) ls (.ref (ad (19 * h + 14)) :: rest))) : W p l e R s m args below meth c0 H locs cells slots Q (F0 m pc ls (.ref (ad (19 * h)) :: rest)) :=
  q_get hC hR 1 (C := RX0) (T := TX0) (N := 13) (by omega) (qsh_hall G ad _ hh) rfl qin_X0 (by decide) hlink rfl hdg kk
theorem qget_X0_2 (hC : qCx p c0 cc nL s m args meth own D G ad) (hR : qRp D G ad s w H locs) {h : Nat} (hh : h < 12) {index : Nat} (hlink : Cond.fieldLink own index "QuakeRehearsal$Hall" "propCount" "I" ∈ lw_gd) (hdg : decode cc pc = .ok (.getfield index, 3)) (kk : W p l e R s m args below meth c0 H locs cells slots Q (F0 m (pc + 3) ls (.int (w (19 * h) 2) :: rest))) : W p l e R s m args below meth c0 H locs cells slots Q (F0 m pc ls (.ref (ad (19 * h)) :: rest)) :=
  q_get hC hR 2 (C := RX0) (T := TX0) (N := 13) (by omega) (qsh_hall G ad _ hh) rfl qin_X0 (by decide) hlink rfl hdg kk
theorem qput_X0_2 (hC : qCx p c0 cc nL s m args meth own D G ad) (hR : qRp D G ad s w H locs) {h : Nat} (hh : h < 12) {index : Nat} (hlink : Cond.fieldLink own index "QuakeRehearsal$Hall" "propCount" "I" ∈ lw_gd) {v : Int32} (hn : narrow .int (.int v) = .int v ∧ fits .int (.int v) = true) (hdg : decode cc pc = .ok (.putfield index, 3)) (kk : ∀ (w1 : qMem) (H : Heap) (locs : List Loc), w1 = quw w (19 * h) 2 v → qRp D G ad s w1 H locs → W p l e R s m args below meth c0 H locs cells slots Q (F0 m (pc + 3) ls rest)) : W p l e R s m args below meth c0 H locs cells slots Q (F0 m pc ls (.int v :: .ref (ad (19 * h)) :: rest)) :=
  q_put hC hR 2 (C := RX0) (T := TX0) (N := 13) (fs := qfs_X0 ad h) (ty := .int) (by omega) (fun f => qsh_hall G ad f hh) (fun _ => rfl) (fun _ => (by decide : 2 < 13)) rfl qin_X0 tyX0 tyX0_ok nmX0 (by decide) hlink rfl (by decide +kernel) hn hdg kk
theorem qget_X0_3 (hC : qCx p c0 cc nL s m args meth own D G ad) (hR : qRp D G ad s w H locs) {h : Nat} (hh : h < 12) {index : Nat} (hlink : Cond.fieldLink own index "QuakeRehearsal$Hall" "planned" "[I" ∈ lw_gd) (hdg : decode cc pc = .ok (.getfield index, 3)) (kk : W p l e R s m args below meth c0 H locs cells slots Q (F0 m (pc + 3) ls (.ref (ad (19 * h + 15)) :: rest))) : W p l e R s m args below meth c0 H locs cells slots Q (F0 m pc ls (.ref (ad (19 * h)) :: rest)) :=
  q_get hC hR 3 (C := RX0) (T := TX0) (N := 13) (by omega) (qsh_hall G ad _ hh) rfl qin_X0 (by decide) hlink rfl hdg kk
theorem qget_X0_4 (hC : qCx p c0 cc nL s m args meth own D G ad) (hR : qRp D G ad s w H locs) {h : Nat} (hh : h < 12) {index : Nat} (hlink : Cond.fieldLink own index "QuakeRehearsal$Hall" "plannedCount" "I" ∈ lw_gd) (hdg : decode cc pc = .ok (.getfield index, 3)) (kk : W p l e R s m args below meth c0 H locs cells slots Q (F0 m (pc + 3) ls (.int (w (19 * h) 4) :: rest))) : W p l e R s m args below meth c0 H locs cells slots Q (F0 m pc ls (.ref (ad (19 * h)) :: rest)) :=
  q_get hC hR 4 (C := RX0) (T := TX0) (N := 13) (by omega) (qsh_hall G ad _ hh) rfl qin_X0 (by decide) hlink rfl hdg kk
theorem qput_X0_4 (hC : qCx p c0 cc nL s m args meth own D G ad) (hR : qRp D G ad s w H locs) {h : Nat} (hh : h < 12) {index : Nat} (hlink : Cond.fieldLink own index "QuakeRehearsal$Hall" "plannedCount" "I" ∈ lw_gd) {v : Int32} (hn : narrow .int (.int v) = .int v ∧ fits .int (.int v) = true) (hdg : decode cc pc = .ok (.putfield index, 3)) (kk : ∀ (w1 : qMem) (H : Heap) (locs : List Loc), w1 = quw w (19 * h) 4 v → qRp D G ad s w1 H locs → W p l e R s m args below meth c0 H locs cells slots Q (F0 m (pc + 3) ls rest)) : W p l e R s m args below meth c0 H locs cells slots Q (F0 m pc ls (.int v :: .ref (ad (19 * h)) :: rest)) :=
  q_put hC hR 4 (C := RX0) (T := TX0) (N := 13) (fs := qfs_X0 ad h) (ty := .int) (by omega) (fun f => qsh_hall G ad f hh) (fun _ => rfl) (fun _ => (by decide : 4 < 13)) rfl qin_X0 tyX0 tyX0_ok nmX0 (by decide) hlink rfl (by decide +kernel) hn hdg kk
theorem qget_X0_5 (hC : qCx p c0 cc nL s m args meth own D G ad) (hR : qRp D G ad s w H locs) {h : Nat} (hh : h < 12) {index : Nat} (hlink : Cond.fieldLink own index "QuakeRehearsal$Hall" "strength" "I" ∈ lw_gd) (hdg : decode cc pc = .ok (.getfield index, 3)) (kk : W p l e R s m args below meth c0 H locs cells slots Q (F0 m (pc + 3) ls (.int (w (19 * h) 5) :: rest))) : W p l e R s m args below meth c0 H locs cells slots Q (F0 m pc ls (.ref (ad (19 * h)) :: rest)) :=
  q_get hC hR 5 (C := RX0) (T := TX0) (N := 13) (by omega) (qsh_hall G ad _ hh) rfl qin_X0 (by decide) hlink rfl hdg kk
theorem qput_X0_5 (hC : qCx p c0 cc nL s m args meth own D G ad) (hR : qRp D G ad s w H locs) {h : Nat} (hh : h < 12) {index : Nat} (hlink : Cond.fieldLink own index "QuakeRehearsal$Hall" "strength" "I" ∈ lw_gd) {v : Int32} (hn : narrow .int (.int v) = .int v ∧ fits .int (.int v) = true) (hdg : decode cc pc = .ok (.putfield index, 3)) (kk : ∀ (w1 : qMem) (H : Heap) (locs : List Loc), w1 = quw w (19 * h) 5 v → qRp D G ad s w1 H locs → W p l e R s m args below meth c0 H locs cells slots Q (F0 m (pc + 3) ls rest)) : W p l e R s m args below meth c0 H locs cells slots Q (F0 m pc ls (.int v :: .ref (ad (19 * h)) :: rest)) :=
  q_put hC hR 5 (C := RX0) (T := TX0) (N := 13) (fs := qfs_X0 ad h) (ty := .int) (by omega) (fun f => qsh_hall G ad f hh) (fun _ => rfl) (fun _ => (by decide : 5 < 13)) rfl qin_X0 tyX0 tyX0_ok nmX0 (by decide) hlink rfl (by decide +kernel) hn hdg kk
theorem qget_X0_6 (hC : qCx p c0 cc nL s m args meth own D G ad) (hR : qRp D G ad s w H locs) {h : Nat} (hh : h < 12) {index : Nat} (hlink : Cond.fieldLink own index "QuakeRehearsal$Hall" "shocks" "I" ∈ lw_gd) (hdg : decode cc pc = .ok (.getfield index, 3)) (kk : W p l e R s m args below meth c0 H locs cells slots Q (F0 m (pc + 3) ls (.int (w (19 * h) 6) :: rest))) : W p l e R s m args below meth c0 H locs cells slots Q (F0 m pc ls (.ref (ad (19 * h)) :: rest)) :=
  q_get hC hR 6 (C := RX0) (T := TX0) (N := 13) (by omega) (qsh_hall G ad _ hh) rfl qin_X0 (by decide) hlink rfl hdg kk
theorem qput_X0_6 (hC : qCx p c0 cc nL s m args meth own D G ad) (hR : qRp D G ad s w H locs) {h : Nat} (hh : h < 12) {index : Nat} (hlink : Cond.fieldLink own index "QuakeRehearsal$Hall" "shocks" "I" ∈ lw_gd) {v : Int32} (hn : narrow .int (.int v) = .int v ∧ fits .int (.int v) = true) (hdg : decode cc pc = .ok (.putfield index, 3)) (kk : ∀ (w1 : qMem) (H : Heap) (locs : List Loc), w1 = quw w (19 * h) 6 v → qRp D G ad s w1 H locs → W p l e R s m args below meth c0 H locs cells slots Q (F0 m (pc + 3) ls rest)) : W p l e R s m args below meth c0 H locs cells slots Q (F0 m pc ls (.int v :: .ref (ad (19 * h)) :: rest)) :=
  q_put hC hR 6 (C := RX0) (T := TX0) (N := 13) (fs := qfs_X0 ad h) (ty := .int) (by omega) (fun f => qsh_hall G ad f hh) (fun _ => rfl) (fun _ => (by decide : 6 < 13)) rfl qin_X0 tyX0 tyX0_ok nmX0 (by decide) hlink rfl (by decide +kernel) hn hdg kk
theorem qget_X0_7 (hC : qCx p c0 cc nL s m args meth own D G ad) (hR : qRp D G ad s w H locs) {h : Nat} (hh : h < 12) {index : Nat} (hlink : Cond.fieldLink own index "QuakeRehearsal$Hall" "encores" "I" ∈ lw_gd) (hdg : decode cc pc = .ok (.getfield index, 3)) (kk : W p l e R s m args below meth c0 H locs cells slots Q (F0 m (pc + 3) ls (.int (w (19 * h) 7) :: rest))) : W p l e R s m args below meth c0 H locs cells slots Q (F0 m pc ls (.ref (ad (19 * h)) :: rest)) :=
  q_get hC hR 7 (C := RX0) (T := TX0) (N := 13) (by omega) (qsh_hall G ad _ hh) rfl qin_X0 (by decide) hlink rfl hdg kk
theorem qput_X0_7 (hC : qCx p c0 cc nL s m args meth own D G ad) (hR : qRp D G ad s w H locs) {h : Nat} (hh : h < 12) {index : Nat} (hlink : Cond.fieldLink own index "QuakeRehearsal$Hall" "encores" "I" ∈ lw_gd) {v : Int32} (hn : narrow .int (.int v) = .int v ∧ fits .int (.int v) = true) (hdg : decode cc pc = .ok (.putfield index, 3)) (kk : ∀ (w1 : qMem) (H : Heap) (locs : List Loc), w1 = quw w (19 * h) 7 v → qRp D G ad s w1 H locs → W p l e R s m args below meth c0 H locs cells slots Q (F0 m (pc + 3) ls rest)) : W p l e R s m args below meth c0 H locs cells slots Q (F0 m pc ls (.int v :: .ref (ad (19 * h)) :: rest)) :=
  q_put hC hR 7 (C := RX0) (T := TX0) (N := 13) (fs := qfs_X0 ad h) (ty := .int) (by omega) (fun f => qsh_hall G ad f hh) (fun _ => rfl) (fun _ => (by decide : 7 < 13)) rfl qin_X0 tyX0 tyX0_ok nmX0 (by decide) hlink rfl (by decide +kernel) hn hdg kk
theorem qget_X0_8 (hC : qCx p c0 cc nL s m args meth own D G ad) (hR : qRp D G ad s w H locs) {h : Nat} (hh : h < 12) {index : Nat} (hlink : Cond.fieldLink own index "QuakeRehearsal$Hall" "marks" "I" ∈ lw_gd) (hdg : decode cc pc = .ok (.getfield index, 3)) (kk : W p l e R s m args below meth c0 H locs cells slots Q (F0 m (pc + 3) ls (.int (w (19 * h) 8) :: rest))) : W p l e R s m args below meth c0 H locs cells slots Q (F0 m pc ls (.ref (ad (19 * h)) :: rest)) :=
  q_get hC hR 8 (C := RX0) (T := TX0) (N := 13) (by omega) (qsh_hall G ad _ hh) rfl qin_X0 (by decide) hlink rfl hdg kk
theorem qput_X0_8 (hC : qCx p c0 cc nL s m args meth own D G ad) (hR : qRp D G ad s w H locs) {h : Nat} (hh : h < 12) {index : Nat} (hlink : Cond.fieldLink own index "QuakeRehearsal$Hall" "marks" "I" ∈ lw_gd) {v : Int32} (hn : narrow .int (.int v) = .int v ∧ fits .int (.int v) = true) (hdg : decode cc pc = .ok (.putfield index, 3)) (kk : ∀ (w1 : qMem) (H : Heap) (locs : List Loc), w1 = quw w (19 * h) 8 v → qRp D G ad s w1 H locs → W p l e R s m args below meth c0 H locs cells slots Q (F0 m (pc + 3) ls rest)) : W p l e R s m args below meth c0 H locs cells slots Q (F0 m pc ls (.int v :: .ref (ad (19 * h)) :: rest)) :=
  q_put hC hR 8 (C := RX0) (T := TX0) (N := 13) (fs := qfs_X0 ad h) (ty := .int) (by omega) (fun f => qsh_hall G ad f hh) (fun _ => rfl) (fun _ => (by decide : 8 < 13)) rfl qin_X0 tyX0 tyX0_ok nmX0 (by decide) hlink rfl (by decide +kernel) hn hdg kk
theorem qget_X0_9 (hC : qCx p c0 cc nL s m args meth own D G ad) (hR : qRp D G ad s w H locs) {h : Nat} (hh : h < 12) {index : Nat} (hlink : Cond.fieldLink own index "QuakeRehearsal$Hall" "breakages" "I" ∈ lw_gd) (hdg : decode cc pc = .ok (.getfield index, 3)) (kk : W p l e R s m args below meth c0 H locs cells slots Q (F0 m (pc + 3) ls (.int (w (19 * h) 9) :: rest))) : W p l e R s m args below meth c0 H locs cells slots Q (F0 m pc ls (.ref (ad (19 * h)) :: rest)) :=
  q_get hC hR 9 (C := RX0) (T := TX0) (N := 13) (by omega) (qsh_hall G ad _ hh) rfl qin_X0 (by decide) hlink rfl hdg kk
theorem qput_X0_9 (hC : qCx p c0 cc nL s m args meth own D G ad) (hR : qRp D G ad s w H locs) {h : Nat} (hh : h < 12) {index : Nat} (hlink : Cond.fieldLink own index "QuakeRehearsal$Hall" "breakages" "I" ∈ lw_gd) {v : Int32} (hn : narrow .int (.int v) = .int v ∧ fits .int (.int v) = true) (hdg : decode cc pc = .ok (.putfield index, 3)) (kk : ∀ (w1 : qMem) (H : Heap) (locs : List Loc), w1 = quw w (19 * h) 9 v → qRp D G ad s w1 H locs → W p l e R s m args below meth c0 H locs cells slots Q (F0 m (pc + 3) ls rest)) : W p l e R s m args below meth c0 H locs cells slots Q (F0 m pc ls (.int v :: .ref (ad (19 * h)) :: rest)) :=
  q_put hC hR 9 (C := RX0) (T := TX0) (N := 13) (fs := qfs_X0 ad h) (ty := .int) (by omega) (fun f => qsh_hall G ad f hh) (fun _ => rfl) (fun _ => (by decide : 9 < 13)) rfl qin_X0 tyX0 tyX0_ok nmX0 (by decide) hlink rfl (by decide +kernel) hn hdg kk
theorem qget_X0_10 (hC : qCx p c0 cc nL s m args meth own D G ad) (hR : qRp D G ad s w H locs) {h : Nat} (hh : h < 12) {index : Nat} (hlink : Cond.fieldLink own index "QuakeRehearsal$Hall" "hasCat" "[Z" ∈ lw_gd) (hdg : decode cc pc = .ok (.getfield index, 3)) (kk : W p l e R s m args below meth c0 H locs cells slots Q (F0 m (pc + 3) ls (.ref (ad (19 * h + 16)) :: rest))) : W p l e R s m args below meth c0 H locs cells slots Q (F0 m pc ls (.ref (ad (19 * h)) :: rest)) :=
  q_get hC hR 10 (C := RX0) (T := TX0) (N := 13) (by omega) (qsh_hall G ad _ hh) rfl qin_X0 (by decide) hlink rfl hdg kk
theorem qget_X0_11 (hC : qCx p c0 cc nL s m args meth own D G ad) (hR : qRp D G ad s w H locs) {h : Nat} (hh : h < 12) {index : Nat} (hlink : Cond.fieldLink own index "QuakeRehearsal$Hall" "reach" "[I" ∈ lw_gd) (hdg : decode cc pc = .ok (.getfield index, 3)) (kk : W p l e R s m args below meth c0 H locs cells slots Q (F0 m (pc + 3) ls (.ref (ad (19 * h + 17)) :: rest))) : W p l e R s m args below meth c0 H locs cells slots Q (F0 m pc ls (.ref (ad (19 * h)) :: rest)) :=
  q_get hC hR 11 (C := RX0) (T := TX0) (N := 13) (by omega) (qsh_hall G ad _ hh) rfl qin_X0 (by decide) hlink rfl hdg kk
theorem qget_X0_12 (hC : qCx p c0 cc nL s m args meth own D G ad) (hR : qRp D G ad s w H locs) {h : Nat} (hh : h < 12) {index : Nat} (hlink : Cond.fieldLink own index "QuakeRehearsal$Hall" "hasBreakage" "[Z" ∈ lw_gd) (hdg : decode cc pc = .ok (.getfield index, 3)) (kk : W p l e R s m args below meth c0 H locs cells slots Q (F0 m (pc + 3) ls (.ref (ad (19 * h + 18)) :: rest))) : W p l e R s m args below meth c0 H locs cells slots Q (F0 m pc ls (.ref (ad (19 * h)) :: rest)) :=
  q_get hC hR 12 (C := RX0) (T := TX0) (N := 13) (by omega) (qsh_hall G ad _ hh) rfl qin_X0 (by decide) hlink rfl hdg kk
theorem qget_X1_0 (hC : qCx p c0 cc nL s m args meth own D G ad) (hR : qRp D G ad s w H locs) {index : Nat} (hlink : Cond.fieldLink own index "QuakeRehearsal$History" "kept" "[LQuakeRehearsal$Hall;" ∈ lw_gd) (hdg : decode cc pc = .ok (.getfield index, 3)) (kk : W p l e R s m args below meth c0 H locs cells slots Q (F0 m (pc + 3) ls (.ref (ad 230) :: rest))) : W p l e R s m args below meth c0 H locs cells slots Q (F0 m pc ls (.ref (ad 229) :: rest)) :=
  q_get hC hR 0 (C := RX1) (T := TX1) (N := 3) (by decide) (qsh_229 G ad _) rfl qin_X1 (by decide) hlink rfl hdg kk
theorem qget_X1_1 (hC : qCx p c0 cc nL s m args meth own D G ad) (hR : qRp D G ad s w H locs) {index : Nat} (hlink : Cond.fieldLink own index "QuakeRehearsal$History" "next" "I" ∈ lw_gd) (hdg : decode cc pc = .ok (.getfield index, 3)) (kk : W p l e R s m args below meth c0 H locs cells slots Q (F0 m (pc + 3) ls (.int (w 229 1) :: rest))) : W p l e R s m args below meth c0 H locs cells slots Q (F0 m pc ls (.ref (ad 229) :: rest)) :=
  q_get hC hR 1 (C := RX1) (T := TX1) (N := 3) (by decide) (qsh_229 G ad _) rfl qin_X1 (by decide) hlink rfl hdg kk
theorem qput_X1_1 (hC : qCx p c0 cc nL s m args meth own D G ad) (hR : qRp D G ad s w H locs) {index : Nat} (hlink : Cond.fieldLink own index "QuakeRehearsal$History" "next" "I" ∈ lw_gd) {v : Int32} (hn : narrow .int (.int v) = .int v ∧ fits .int (.int v) = true) (hdg : decode cc pc = .ok (.putfield index, 3)) (kk : ∀ (w1 : qMem) (H : Heap) (locs : List Loc), w1 = quw w 229 1 v → qRp D G ad s w1 H locs → W p l e R s m args below meth c0 H locs cells slots Q (F0 m (pc + 3) ls rest)) : W p l e R s m args below meth c0 H locs cells slots Q (F0 m pc ls (.int v :: .ref (ad 229) :: rest)) :=
  q_put hC hR 1 (C := RX1) (T := TX1) (N := 3) (fs := qfs_X1 ad) (ty := .int) (by decide) (fun f => qsh_229 G ad f) (fun _ => rfl) (fun _ => (by decide : 1 < 3)) rfl qin_X1 tyX1 tyX1_ok nmX1 (by decide) hlink rfl (by decide +kernel) hn hdg kk
theorem qget_X1_2 (hC : qCx p c0 cc nL s m args meth own D G ad) (hR : qRp D G ad s w H locs) {index : Nat} (hlink : Cond.fieldLink own index "QuakeRehearsal$History" "depth" "I" ∈ lw_gd) (hdg : decode cc pc = .ok (.getfield index, 3)) (kk : W p l e R s m args below meth c0 H locs cells slots Q (F0 m (pc + 3) ls (.int (w 229 2) :: rest))) : W p l e R s m args below meth c0 H locs cells slots Q (F0 m pc ls (.ref (ad 229) :: rest)) :=
  q_get hC hR 2 (C := RX1) (T := TX1) (N := 3) (by decide) (qsh_229 G ad _) rfl qin_X1 (by decide) hlink rfl hdg kk
theorem qput_X1_2 (hC : qCx p c0 cc nL s m args meth own D G ad) (hR : qRp D G ad s w H locs) {index : Nat} (hlink : Cond.fieldLink own index "QuakeRehearsal$History" "depth" "I" ∈ lw_gd) {v : Int32} (hn : narrow .int (.int v) = .int v ∧ fits .int (.int v) = true) (hdg : decode cc pc = .ok (.putfield index, 3)) (kk : ∀ (w1 : qMem) (H : Heap) (locs : List Loc), w1 = quw w 229 2 v → qRp D G ad s w1 H locs → W p l e R s m args below meth c0 H locs cells slots Q (F0 m (pc + 3) ls rest)) : W p l e R s m args below meth c0 H locs cells slots Q (F0 m pc ls (.int v :: .ref (ad 229) :: rest)) :=
  q_put hC hR 2 (C := RX1) (T := TX1) (N := 3) (fs := qfs_X1 ad) (ty := .int) (by decide) (fun f => qsh_229 G ad f) (fun _ => rfl) (fun _ => (by decide : 2 < 3)) rfl qin_X1 tyX1 tyX1_ok nmX1 (by decide) hlink rfl (by decide +kernel) hn hdg kk
theorem qget_X2_0 (hC : qCx p c0 cc nL s m args meth own D G ad) (hR : qRp D G ad s w H locs) {index : Nat} (hlink : Cond.fieldLink own index "QuakeRehearsal$Line" "signs" "[C" ∈ lw_gd) (hdg : decode cc pc = .ok (.getfield index, 3)) (kk : W p l e R s m args below meth c0 H locs cells slots Q (F0 m (pc + 3) ls (.ref (ad 237) :: rest))) : W p l e R s m args below meth c0 H locs cells slots Q (F0 m pc ls (.ref (ad 236) :: rest)) :=
  q_get hC hR 0 (C := RX2) (T := TX2) (N := 2) (by decide) (qsh_236 G ad _) rfl qin_X2 (by decide) hlink rfl hdg kk
theorem qget_X2_1 (hC : qCx p c0 cc nL s m args meth own D G ad) (hR : qRp D G ad s w H locs) {index : Nat} (hlink : Cond.fieldLink own index "QuakeRehearsal$Line" "length" "I" ∈ lw_gd) (hdg : decode cc pc = .ok (.getfield index, 3)) (kk : W p l e R s m args below meth c0 H locs cells slots Q (F0 m (pc + 3) ls (.int (w 236 1) :: rest))) : W p l e R s m args below meth c0 H locs cells slots Q (F0 m pc ls (.ref (ad 236) :: rest)) :=
  q_get hC hR 1 (C := RX2) (T := TX2) (N := 2) (by decide) (qsh_236 G ad _) rfl qin_X2 (by decide) hlink rfl hdg kk
theorem qput_X2_1 (hC : qCx p c0 cc nL s m args meth own D G ad) (hR : qRp D G ad s w H locs) {index : Nat} (hlink : Cond.fieldLink own index "QuakeRehearsal$Line" "length" "I" ∈ lw_gd) {v : Int32} (hn : narrow .int (.int v) = .int v ∧ fits .int (.int v) = true) (hdg : decode cc pc = .ok (.putfield index, 3)) (kk : ∀ (w1 : qMem) (H : Heap) (locs : List Loc), w1 = quw w 236 1 v → qRp D G ad s w1 H locs → W p l e R s m args below meth c0 H locs cells slots Q (F0 m (pc + 3) ls rest)) : W p l e R s m args below meth c0 H locs cells slots Q (F0 m pc ls (.int v :: .ref (ad 236) :: rest)) :=
  q_put hC hR 1 (C := RX2) (T := TX2) (N := 2) (fs := qfs_X2 ad) (ty := .int) (by decide) (fun f => qsh_236 G ad f) (fun _ => rfl) (fun _ => (by decide : 1 < 2)) rfl qin_X2 tyX2 tyX2_ok nmX2 (by decide) hlink rfl (by decide +kernel) hn hdg kk
theorem qget_X3_0 (hC : qCx p c0 cc nL s m args meth own D G ad) (hR : qRp D G ad s w H locs) {c : Nat} (hc : qisP c) {index : Nat} (hlink : Cond.fieldLink own index "QuakeRehearsal$Prop" "kind" "I" ∈ lw_gd) (hdg : decode cc pc = .ok (.getfield index, 3)) (kk : W p l e R s m args below meth c0 H locs cells slots Q (F0 m (pc + 3) ls (.int (w c 0) :: rest))) : W p l e R s m args below meth c0 H locs cells slots Q (F0 m pc ls (.ref (ad c) :: rest)) :=
  q_get hC hR 0 (C := RX3) (T := TX3) (N := 7) (qisP_lt hc) (qsh_prop G ad _ hc) rfl qin_X3 (by decide) hlink rfl hdg kk
theorem qput_X3_0 (hC : qCx p c0 cc nL s m args meth own D G ad) (hR : qRp D G ad s w H locs) {c : Nat} (hc : qisP c) {index : Nat} (hlink : Cond.fieldLink own index "QuakeRehearsal$Prop" "kind" "I" ∈ lw_gd) {v : Int32} (hn : narrow .int (.int v) = .int v ∧ fits .int (.int v) = true) (hdg : decode cc pc = .ok (.putfield index, 3)) (kk : ∀ (w1 : qMem) (H : Heap) (locs : List Loc), w1 = quw w c 0 v → qRp D G ad s w1 H locs → W p l e R s m args below meth c0 H locs cells slots Q (F0 m (pc + 3) ls rest)) : W p l e R s m args below meth c0 H locs cells slots Q (F0 m pc ls (.int v :: .ref (ad c) :: rest)) :=
  q_put hC hR 0 (C := RX3) (T := TX3) (N := 7) (fs := qfs_X3 ad) (ty := .int) (qisP_lt hc) (fun f => qsh_prop G ad f hc) (fun _ => rfl) (fun _ => (by decide : 0 < 7)) rfl qin_X3 tyX3 tyX3_ok nmX3 (by decide) hlink rfl (by decide +kernel) hn hdg kk
theorem qget_X3_1 (hC : qCx p c0 cc nL s m args meth own D G ad) (hR : qRp D G ad s w H locs) {c : Nat} (hc : qisP c) {index : Nat} (hlink : Cond.fieldLink own index "QuakeRehearsal$Prop" "floor" "I" ∈ lw_gd) (hdg : decode cc pc = .ok (.getfield index, 3)) (kk : W p l e R s m args below meth c0 H locs cells slots Q (F0 m (pc + 3) ls (.int (w c 1) :: rest))) : W p l e R s m args below meth c0 H locs cells slots Q (F0 m pc ls (.ref (ad c) :: rest)) :=
  q_get hC hR 1 (C := RX3) (T := TX3) (N := 7) (qisP_lt hc) (qsh_prop G ad _ hc) rfl qin_X3 (by decide) hlink rfl hdg kk
theorem qput_X3_1 (hC : qCx p c0 cc nL s m args meth own D G ad) (hR : qRp D G ad s w H locs) {c : Nat} (hc : qisP c) {index : Nat} (hlink : Cond.fieldLink own index "QuakeRehearsal$Prop" "floor" "I" ∈ lw_gd) {v : Int32} (hn : narrow .int (.int v) = .int v ∧ fits .int (.int v) = true) (hdg : decode cc pc = .ok (.putfield index, 3)) (kk : ∀ (w1 : qMem) (H : Heap) (locs : List Loc), w1 = quw w c 1 v → qRp D G ad s w1 H locs → W p l e R s m args below meth c0 H locs cells slots Q (F0 m (pc + 3) ls rest)) : W p l e R s m args below meth c0 H locs cells slots Q (F0 m pc ls (.int v :: .ref (ad c) :: rest)) :=
  q_put hC hR 1 (C := RX3) (T := TX3) (N := 7) (fs := qfs_X3 ad) (ty := .int) (qisP_lt hc) (fun f => qsh_prop G ad f hc) (fun _ => rfl) (fun _ => (by decide : 1 < 7)) rfl qin_X3 tyX3 tyX3_ok nmX3 (by decide) hlink rfl (by decide +kernel) hn hdg kk
theorem qget_X3_2 (hC : qCx p c0 cc nL s m args meth own D G ad) (hR : qRp D G ad s w H locs) {c : Nat} (hc : qisP c) {index : Nat} (hlink : Cond.fieldLink own index "QuakeRehearsal$Prop" "measure" "I" ∈ lw_gd) (hdg : decode cc pc = .ok (.getfield index, 3)) (kk : W p l e R s m args below meth c0 H locs cells slots Q (F0 m (pc + 3) ls (.int (w c 2) :: rest))) : W p l e R s m args below meth c0 H locs cells slots Q (F0 m pc ls (.ref (ad c) :: rest)) :=
  q_get hC hR 2 (C := RX3) (T := TX3) (N := 7) (qisP_lt hc) (qsh_prop G ad _ hc) rfl qin_X3 (by decide) hlink rfl hdg kk
theorem qput_X3_2 (hC : qCx p c0 cc nL s m args meth own D G ad) (hR : qRp D G ad s w H locs) {c : Nat} (hc : qisP c) {index : Nat} (hlink : Cond.fieldLink own index "QuakeRehearsal$Prop" "measure" "I" ∈ lw_gd) {v : Int32} (hn : narrow .int (.int v) = .int v ∧ fits .int (.int v) = true) (hdg : decode cc pc = .ok (.putfield index, 3)) (kk : ∀ (w1 : qMem) (H : Heap) (locs : List Loc), w1 = quw w c 2 v → qRp D G ad s w1 H locs → W p l e R s m args below meth c0 H locs cells slots Q (F0 m (pc + 3) ls rest)) : W p l e R s m args below meth c0 H locs cells slots Q (F0 m pc ls (.int v :: .ref (ad c) :: rest)) :=
  q_put hC hR 2 (C := RX3) (T := TX3) (N := 7) (fs := qfs_X3 ad) (ty := .int) (qisP_lt hc) (fun f => qsh_prop G ad f hc) (fun _ => rfl) (fun _ => (by decide : 2 < 7)) rfl qin_X3 tyX3 tyX3_ok nmX3 (by decide) hlink rfl (by decide +kernel) hn hdg kk
theorem qget_X3_3 (hC : qCx p c0 cc nL s m args meth own D G ad) (hR : qRp D G ad s w H locs) {c : Nat} (hc : qisP c) {index : Nat} (hlink : Cond.fieldLink own index "QuakeRehearsal$Prop" "damage" "I" ∈ lw_gd) (hdg : decode cc pc = .ok (.getfield index, 3)) (kk : W p l e R s m args below meth c0 H locs cells slots Q (F0 m (pc + 3) ls (.int (w c 3) :: rest))) : W p l e R s m args below meth c0 H locs cells slots Q (F0 m pc ls (.ref (ad c) :: rest)) :=
  q_get hC hR 3 (C := RX3) (T := TX3) (N := 7) (qisP_lt hc) (qsh_prop G ad _ hc) rfl qin_X3 (by decide) hlink rfl hdg kk
theorem qput_X3_3 (hC : qCx p c0 cc nL s m args meth own D G ad) (hR : qRp D G ad s w H locs) {c : Nat} (hc : qisP c) {index : Nat} (hlink : Cond.fieldLink own index "QuakeRehearsal$Prop" "damage" "I" ∈ lw_gd) {v : Int32} (hn : narrow .int (.int v) = .int v ∧ fits .int (.int v) = true) (hdg : decode cc pc = .ok (.putfield index, 3)) (kk : ∀ (w1 : qMem) (H : Heap) (locs : List Loc), w1 = quw w c 3 v → qRp D G ad s w1 H locs → W p l e R s m args below meth c0 H locs cells slots Q (F0 m (pc + 3) ls rest)) : W p l e R s m args below meth c0 H locs cells slots Q (F0 m pc ls (.int v :: .ref (ad c) :: rest)) :=
  q_put hC hR 3 (C := RX3) (T := TX3) (N := 7) (fs := qfs_X3 ad) (ty := .int) (qisP_lt hc) (fun f => qsh_prop G ad f hc) (fun _ => rfl) (fun _ => (by decide : 3 < 7)) rfl qin_X3 tyX3 tyX3_ok nmX3 (by decide) hlink rfl (by decide +kernel) hn hdg kk
theorem qget_X3_4 (hC : qCx p c0 cc nL s m args meth own D G ad) (hR : qRp D G ad s w H locs) {c : Nat} (hc : qisP c) {index : Nat} (hlink : Cond.fieldLink own index "QuakeRehearsal$Prop" "broken" "Z" ∈ lw_gd) (hdg : decode cc pc = .ok (.getfield index, 3)) (kk : W p l e R s m args below meth c0 H locs cells slots Q (F0 m (pc + 3) ls (.int (w c 4) :: rest))) : W p l e R s m args below meth c0 H locs cells slots Q (F0 m pc ls (.ref (ad c) :: rest)) :=
  q_get hC hR 4 (C := RX3) (T := TX3) (N := 7) (qisP_lt hc) (qsh_prop G ad _ hc) rfl qin_X3 (by decide) hlink rfl hdg kk
theorem qput_X3_4 (hC : qCx p c0 cc nL s m args meth own D G ad) (hR : qRp D G ad s w H locs) {c : Nat} (hc : qisP c) {index : Nat} (hlink : Cond.fieldLink own index "QuakeRehearsal$Prop" "broken" "Z" ∈ lw_gd) {v : Int32} (hn : narrow .boolean (.int v) = .int v ∧ fits .boolean (.int v) = true) (hdg : decode cc pc = .ok (.putfield index, 3)) (kk : ∀ (w1 : qMem) (H : Heap) (locs : List Loc), w1 = quw w c 4 v → qRp D G ad s w1 H locs → W p l e R s m args below meth c0 H locs cells slots Q (F0 m (pc + 3) ls rest)) : W p l e R s m args below meth c0 H locs cells slots Q (F0 m pc ls (.int v :: .ref (ad c) :: rest)) :=
  q_put hC hR 4 (C := RX3) (T := TX3) (N := 7) (fs := qfs_X3 ad) (ty := .boolean) (qisP_lt hc) (fun f => qsh_prop G ad f hc) (fun _ => rfl) (fun _ => (by decide : 4 < 7)) rfl qin_X3 tyX3 tyX3_ok nmX3 (by decide) hlink rfl (by decide +kernel) hn hdg kk
theorem qget_X3_5 (hC : qCx p c0 cc nL s m args meth own D G ad) (hR : qRp D G ad s w H locs) {c : Nat} (hc : qisP c) {index : Nat} (hlink : Cond.fieldLink own index "QuakeRehearsal$Prop" "cued" "I" ∈ lw_gd) (hdg : decode cc pc = .ok (.getfield index, 3)) (kk : W p l e R s m args below meth c0 H locs cells slots Q (F0 m (pc + 3) ls (.int (w c 5) :: rest))) : W p l e R s m args below meth c0 H locs cells slots Q (F0 m pc ls (.ref (ad c) :: rest)) :=
  q_get hC hR 5 (C := RX3) (T := TX3) (N := 7) (qisP_lt hc) (qsh_prop G ad _ hc) rfl qin_X3 (by decide) hlink rfl hdg kk
theorem qput_X3_5 (hC : qCx p c0 cc nL s m args meth own D G ad) (hR : qRp D G ad s w H locs) {c : Nat} (hc : qisP c) {index : Nat} (hlink : Cond.fieldLink own index "QuakeRehearsal$Prop" "cued" "I" ∈ lw_gd) {v : Int32} (hn : narrow .int (.int v) = .int v ∧ fits .int (.int v) = true) (hdg : decode cc pc = .ok (.putfield index, 3)) (kk : ∀ (w1 : qMem) (H : Heap) (locs : List Loc), w1 = quw w c 5 v → qRp D G ad s w1 H locs → W p l e R s m args below meth c0 H locs cells slots Q (F0 m (pc + 3) ls rest)) : W p l e R s m args below meth c0 H locs cells slots Q (F0 m pc ls (.int v :: .ref (ad c) :: rest)) :=
  q_put hC hR 5 (C := RX3) (T := TX3) (N := 7) (fs := qfs_X3 ad) (ty := .int) (qisP_lt hc) (fun f => qsh_prop G ad f hc) (fun _ => rfl) (fun _ => (by decide : 5 < 7)) rfl qin_X3 tyX3 tyX3_ok nmX3 (by decide) hlink rfl (by decide +kernel) hn hdg kk
theorem qget_X3_6 (hC : qCx p c0 cc nL s m args meth own D G ad) (hR : qRp D G ad s w H locs) {c : Nat} (hc : qisP c) {index : Nat} (hlink : Cond.fieldLink own index "QuakeRehearsal$Prop" "tally" "I" ∈ lw_gd) (hdg : decode cc pc = .ok (.getfield index, 3)) (kk : W p l e R s m args below meth c0 H locs cells slots Q (F0 m (pc + 3) ls (.int (w c 6) :: rest))) : W p l e R s m args below meth c0 H locs cells slots Q (F0 m pc ls (.ref (ad c) :: rest)) :=
  q_get hC hR 6 (C := RX3) (T := TX3) (N := 7) (qisP_lt hc) (qsh_prop G ad _ hc) rfl qin_X3 (by decide) hlink rfl hdg kk
theorem qput_X3_6 (hC : qCx p c0 cc nL s m args meth own D G ad) (hR : qRp D G ad s w H locs) {c : Nat} (hc : qisP c) {index : Nat} (hlink : Cond.fieldLink own index "QuakeRehearsal$Prop" "tally" "I" ∈ lw_gd) {v : Int32} (hn : narrow .int (.int v) = .int v ∧ fits .int (.int v) = true) (hdg : decode cc pc = .ok (.putfield index, 3)) (kk : ∀ (w1 : qMem) (H : Heap) (locs : List Loc), w1 = quw w c 6 v → qRp D G ad s w1 H locs → W p l e R s m args below meth c0 H locs cells slots Q (F0 m (pc + 3) ls rest)) : W p l e R s m args below meth c0 H locs cells slots Q (F0 m pc ls (.int v :: .ref (ad c) :: rest)) :=
  q_put hC hR 6 (C := RX3) (T := TX3) (N := 7) (fs := qfs_X3 ad) (ty := .int) (qisP_lt hc) (fun f => qsh_prop G ad f hc) (fun _ => rfl) (fun _ => (by decide : 6 < 7)) rfl qin_X3 tyX3 tyX3_ok nmX3 (by decide) hlink rfl (by decide +kernel) hn hdg kk
theorem qget_X4_0 (hC : qCx p c0 cc nL s m args meth own D G ad) (hR : qRp D G ad s w H locs) {index : Nat} (hlink : Cond.fieldLink own index "QuakeRehearsal$Script" "signs" "[C" ∈ lw_gd) (hdg : decode cc pc = .ok (.getfield index, 3)) (kk : W p l e R s m args below meth c0 H locs cells slots Q (F0 m (pc + 3) ls (.ref (ad 232) :: rest))) : W p l e R s m args below meth c0 H locs cells slots Q (F0 m pc ls (.ref (ad 231) :: rest)) :=
  q_get hC hR 0 (C := RX4) (T := TX4) (N := 7) (by decide) (qsh_231 G ad _) rfl qin_X4 (by decide) hlink rfl hdg kk
theorem qget_X4_1 (hC : qCx p c0 cc nL s m args meth own D G ad) (hR : qRp D G ad s w H locs) {index : Nat} (hlink : Cond.fieldLink own index "QuakeRehearsal$Script" "length" "I" ∈ lw_gd) (hdg : decode cc pc = .ok (.getfield index, 3)) (kk : W p l e R s m args below meth c0 H locs cells slots Q (F0 m (pc + 3) ls (.int (w 231 1) :: rest))) : W p l e R s m args below meth c0 H locs cells slots Q (F0 m pc ls (.ref (ad 231) :: rest)) :=
  q_get hC hR 1 (C := RX4) (T := TX4) (N := 7) (by decide) (qsh_231 G ad _) rfl qin_X4 (by decide) hlink rfl hdg kk
theorem qput_X4_1 (hC : qCx p c0 cc nL s m args meth own D G ad) (hR : qRp D G ad s w H locs) {index : Nat} (hlink : Cond.fieldLink own index "QuakeRehearsal$Script" "length" "I" ∈ lw_gd) {v : Int32} (hn : narrow .int (.int v) = .int v ∧ fits .int (.int v) = true) (hdg : decode cc pc = .ok (.putfield index, 3)) (kk : ∀ (w1 : qMem) (H : Heap) (locs : List Loc), w1 = quw w 231 1 v → qRp D G ad s w1 H locs → W p l e R s m args below meth c0 H locs cells slots Q (F0 m (pc + 3) ls rest)) : W p l e R s m args below meth c0 H locs cells slots Q (F0 m pc ls (.int v :: .ref (ad 231) :: rest)) :=
  q_put hC hR 1 (C := RX4) (T := TX4) (N := 7) (fs := qfs_X4 ad) (ty := .int) (by decide) (fun f => qsh_231 G ad f) (fun _ => rfl) (fun _ => (by decide : 1 < 7)) rfl qin_X4 tyX4 tyX4_ok nmX4 (by decide) hlink rfl (by decide +kernel) hn hdg kk
theorem qget_X4_2 (hC : qCx p c0 cc nL s m args meth own D G ad) (hR : qRp D G ad s w H locs) {index : Nat} (hlink : Cond.fieldLink own index "QuakeRehearsal$Script" "words" "[I" ∈ lw_gd) (hdg : decode cc pc = .ok (.getfield index, 3)) (kk : W p l e R s m args below meth c0 H locs cells slots Q (F0 m (pc + 3) ls (.ref (ad 233) :: rest))) : W p l e R s m args below meth c0 H locs cells slots Q (F0 m pc ls (.ref (ad 231) :: rest)) :=
  q_get hC hR 2 (C := RX4) (T := TX4) (N := 7) (by decide) (qsh_231 G ad _) rfl qin_X4 (by decide) hlink rfl hdg kk
theorem qget_X4_3 (hC : qCx p c0 cc nL s m args meth own D G ad) (hR : qRp D G ad s w H locs) {index : Nat} (hlink : Cond.fieldLink own index "QuakeRehearsal$Script" "firsts" "[I" ∈ lw_gd) (hdg : decode cc pc = .ok (.getfield index, 3)) (kk : W p l e R s m args below meth c0 H locs cells slots Q (F0 m (pc + 3) ls (.ref (ad 234) :: rest))) : W p l e R s m args below meth c0 H locs cells slots Q (F0 m pc ls (.ref (ad 231) :: rest)) :=
  q_get hC hR 3 (C := RX4) (T := TX4) (N := 7) (by decide) (qsh_231 G ad _) rfl qin_X4 (by decide) hlink rfl hdg kk
theorem qget_X4_4 (hC : qCx p c0 cc nL s m args meth own D G ad) (hR : qRp D G ad s w H locs) {index : Nat} (hlink : Cond.fieldLink own index "QuakeRehearsal$Script" "seconds" "[I" ∈ lw_gd) (hdg : decode cc pc = .ok (.getfield index, 3)) (kk : W p l e R s m args below meth c0 H locs cells slots Q (F0 m (pc + 3) ls (.ref (ad 235) :: rest))) : W p l e R s m args below meth c0 H locs cells slots Q (F0 m pc ls (.ref (ad 231) :: rest)) :=
  q_get hC hR 4 (C := RX4) (T := TX4) (N := 7) (by decide) (qsh_231 G ad _) rfl qin_X4 (by decide) hlink rfl hdg kk
theorem qget_X4_5 (hC : qCx p c0 cc nL s m args meth own D G ad) (hR : qRp D G ad s w H locs) {index : Nat} (hlink : Cond.fieldLink own index "QuakeRehearsal$Script" "orderCount" "I" ∈ lw_gd) (hdg : decode cc pc = .ok (.getfield index, 3)) (kk : W p l e R s m args below meth c0 H locs cells slots Q (F0 m (pc + 3) ls (.int (w 231 5) :: rest))) : W p l e R s m args below meth c0 H locs cells slots Q (F0 m pc ls (.ref (ad 231) :: rest)) :=
  q_get hC hR 5 (C := RX4) (T := TX4) (N := 7) (by decide) (qsh_231 G ad _) rfl qin_X4 (by decide) hlink rfl hdg kk
theorem qput_X4_5 (hC : qCx p c0 cc nL s m args meth own D G ad) (hR : qRp D G ad s w H locs) {index : Nat} (hlink : Cond.fieldLink own index "QuakeRehearsal$Script" "orderCount" "I" ∈ lw_gd) {v : Int32} (hn : narrow .int (.int v) = .int v ∧ fits .int (.int v) = true) (hdg : decode cc pc = .ok (.putfield index, 3)) (kk : ∀ (w1 : qMem) (H : Heap) (locs : List Loc), w1 = quw w 231 5 v → qRp D G ad s w1 H locs → W p l e R s m args below meth c0 H locs cells slots Q (F0 m (pc + 3) ls rest)) : W p l e R s m args below meth c0 H locs cells slots Q (F0 m pc ls (.int v :: .ref (ad 231) :: rest)) :=
  q_put hC hR 5 (C := RX4) (T := TX4) (N := 7) (fs := qfs_X4 ad) (ty := .int) (by decide) (fun f => qsh_231 G ad f) (fun _ => rfl) (fun _ => (by decide : 5 < 7)) rfl qin_X4 tyX4 tyX4_ok nmX4 (by decide) hlink rfl (by decide +kernel) hn hdg kk
theorem qget_X4_6 (hC : qCx p c0 cc nL s m args meth own D G ad) (hR : qRp D G ad s w H locs) {index : Nat} (hlink : Cond.fieldLink own index "QuakeRehearsal$Script" "offset" "I" ∈ lw_gd) (hdg : decode cc pc = .ok (.getfield index, 3)) (kk : W p l e R s m args below meth c0 H locs cells slots Q (F0 m (pc + 3) ls (.int (w 231 6) :: rest))) : W p l e R s m args below meth c0 H locs cells slots Q (F0 m pc ls (.ref (ad 231) :: rest)) :=
  q_get hC hR 6 (C := RX4) (T := TX4) (N := 7) (by decide) (qsh_231 G ad _) rfl qin_X4 (by decide) hlink rfl hdg kk
theorem qput_X4_6 (hC : qCx p c0 cc nL s m args meth own D G ad) (hR : qRp D G ad s w H locs) {index : Nat} (hlink : Cond.fieldLink own index "QuakeRehearsal$Script" "offset" "I" ∈ lw_gd) {v : Int32} (hn : narrow .int (.int v) = .int v ∧ fits .int (.int v) = true) (hdg : decode cc pc = .ok (.putfield index, 3)) (kk : ∀ (w1 : qMem) (H : Heap) (locs : List Loc), w1 = quw w 231 6 v → qRp D G ad s w1 H locs → W p l e R s m args below meth c0 H locs cells slots Q (F0 m (pc + 3) ls rest)) : W p l e R s m args below meth c0 H locs cells slots Q (F0 m pc ls (.int v :: .ref (ad 231) :: rest)) :=
  q_put hC hR 6 (C := RX4) (T := TX4) (N := 7) (fs := qfs_X4 ad) (ty := .int) (by decide) (fun f => qsh_231 G ad f) (fun _ => rfl) (fun _ => (by decide : 6 < 7)) rfl qin_X4 tyX4 tyX4_ok nmX4 (by decide) hlink rfl (by decide +kernel) hn hdg kk
theorem qget_X5_0 (hC : qCx p c0 cc nL s m args meth own D G ad) (hR : qRp D G ad s w H locs) {index : Nat} (hlink : Cond.fieldLink own index "QuakeRehearsal" "hall" "LQuakeRehearsal$Hall;" ∈ lw_gd) (hdg : decode cc pc = .ok (.getfield index, 3)) (kk : W p l e R s m args below meth c0 H locs cells slots Q (F0 m (pc + 3) ls (.ref (ad 0) :: rest))) : W p l e R s m args below meth c0 H locs cells slots Q (F0 m pc ls (.ref (ad 228) :: rest)) :=
  q_get hC hR 0 (C := RX5) (T := TX5) (N := 11) (by decide) (qsh_228 G ad _) rfl qin_X5 (by decide) hlink rfl hdg kk
theorem qget_X5_1 (hC : qCx p c0 cc nL s m args meth own D G ad) (hR : qRp D G ad s w H locs) {index : Nat} (hlink : Cond.fieldLink own index "QuakeRehearsal" "thought" "LQuakeRehearsal$Hall;" ∈ lw_gd) (hdg : decode cc pc = .ok (.getfield index, 3)) (kk : W p l e R s m args below meth c0 H locs cells slots Q (F0 m (pc + 3) ls (.ref (ad 19) :: rest))) : W p l e R s m args below meth c0 H locs cells slots Q (F0 m pc ls (.ref (ad 228) :: rest)) :=
  q_get hC hR 1 (C := RX5) (T := TX5) (N := 11) (by decide) (qsh_228 G ad _) rfl qin_X5 (by decide) hlink rfl hdg kk
theorem qget_X5_2 (hC : qCx p c0 cc nL s m args meth own D G ad) (hR : qRp D G ad s w H locs) {index : Nat} (hlink : Cond.fieldLink own index "QuakeRehearsal" "snapshot" "LQuakeRehearsal$Hall;" ∈ lw_gd) (hdg : decode cc pc = .ok (.getfield index, 3)) (kk : W p l e R s m args below meth c0 H locs cells slots Q (F0 m (pc + 3) ls (.ref (ad 38) :: rest))) : W p l e R s m args below meth c0 H locs cells slots Q (F0 m pc ls (.ref (ad 228) :: rest)) :=
  q_get hC hR 2 (C := RX5) (T := TX5) (N := 11) (by decide) (qsh_228 G ad _) rfl qin_X5 (by decide) hlink rfl hdg kk
theorem qget_X5_3 (hC : qCx p c0 cc nL s m args meth own D G ad) (hR : qRp D G ad s w H locs) {index : Nat} (hlink : Cond.fieldLink own index "QuakeRehearsal" "history" "LQuakeRehearsal$History;" ∈ lw_gd) (hdg : decode cc pc = .ok (.getfield index, 3)) (kk : W p l e R s m args below meth c0 H locs cells slots Q (F0 m (pc + 3) ls (.ref (ad 229) :: rest))) : W p l e R s m args below meth c0 H locs cells slots Q (F0 m pc ls (.ref (ad 228) :: rest)) :=
  q_get hC hR 3 (C := RX5) (T := TX5) (N := 11) (by decide) (qsh_228 G ad _) rfl qin_X5 (by decide) hlink rfl hdg kk
theorem qget_X5_4 (hC : qCx p c0 cc nL s m args meth own D G ad) (hR : qRp D G ad s w H locs) {index : Nat} (hlink : Cond.fieldLink own index "QuakeRehearsal" "script" "LQuakeRehearsal$Script;" ∈ lw_gd) (hdg : decode cc pc = .ok (.getfield index, 3)) (kk : W p l e R s m args below meth c0 H locs cells slots Q (F0 m (pc + 3) ls (.ref (ad 231) :: rest))) : W p l e R s m args below meth c0 H locs cells slots Q (F0 m pc ls (.ref (ad 228) :: rest)) :=
  q_get hC hR 4 (C := RX5) (T := TX5) (N := 11) (by decide) (qsh_228 G ad _) rfl qin_X5 (by decide) hlink rfl hdg kk
theorem qget_X5_5 (hC : qCx p c0 cc nL s m args meth own D G ad) (hR : qRp D G ad s w H locs) {index : Nat} (hlink : Cond.fieldLink own index "QuakeRehearsal" "written" "LQuakeRehearsal$Line;" ∈ lw_gd) (hdg : decode cc pc = .ok (.getfield index, 3)) (kk : W p l e R s m args below meth c0 H locs cells slots Q (F0 m (pc + 3) ls (.ref (ad 236) :: rest))) : W p l e R s m args below meth c0 H locs cells slots Q (F0 m pc ls (.ref (ad 228) :: rest)) :=
  q_get hC hR 5 (C := RX5) (T := TX5) (N := 11) (by decide) (qsh_228 G ad _) rfl qin_X5 (by decide) hlink rfl hdg kk
theorem qget_X5_6 (hC : qCx p c0 cc nL s m args meth own D G ad) (hR : qRp D G ad s w H locs) {index : Nat} (hlink : Cond.fieldLink own index "QuakeRehearsal" "hasSnapshot" "Z" ∈ lw_gd) (hdg : decode cc pc = .ok (.getfield index, 3)) (kk : W p l e R s m args below meth c0 H locs cells slots Q (F0 m (pc + 3) ls (.int (w 228 6) :: rest))) : W p l e R s m args below meth c0 H locs cells slots Q (F0 m pc ls (.ref (ad 228) :: rest)) :=
  q_get hC hR 6 (C := RX5) (T := TX5) (N := 11) (by decide) (qsh_228 G ad _) rfl qin_X5 (by decide) hlink rfl hdg kk
theorem qput_X5_6 (hC : qCx p c0 cc nL s m args meth own D G ad) (hR : qRp D G ad s w H locs) {index : Nat} (hlink : Cond.fieldLink own index "QuakeRehearsal" "hasSnapshot" "Z" ∈ lw_gd) {v : Int32} (hn : narrow .boolean (.int v) = .int v ∧ fits .boolean (.int v) = true) (hdg : decode cc pc = .ok (.putfield index, 3)) (kk : ∀ (w1 : qMem) (H : Heap) (locs : List Loc), w1 = quw w 228 6 v → qRp D G ad s w1 H locs → W p l e R s m args below meth c0 H locs cells slots Q (F0 m (pc + 3) ls rest)) : W p l e R s m args below meth c0 H locs cells slots Q (F0 m pc ls (.int v :: .ref (ad 228) :: rest)) :=
  q_put hC hR 6 (C := RX5) (T := TX5) (N := 11) (fs := qfs_X5 ad) (ty := .boolean) (by decide) (fun f => qsh_228 G ad f) (fun _ => rfl) (fun _ => (by decide : 6 < 11)) rfl qin_X5 tyX5 tyX5_ok nmX5 (by decide) hlink rfl (by decide +kernel) hn hdg kk
theorem qget_X5_7 (hC : qCx p c0 cc nL s m args meth own D G ad) (hR : qRp D G ad s w H locs) {index : Nat} (hlink : Cond.fieldLink own index "QuakeRehearsal" "errorPlace" "I" ∈ lw_gd) (hdg : decode cc pc = .ok (.getfield index, 3)) (kk : W p l e R s m args below meth c0 H locs cells slots Q (F0 m (pc + 3) ls (.int (w 228 7) :: rest))) : W p l e R s m args below meth c0 H locs cells slots Q (F0 m pc ls (.ref (ad 228) :: rest)) :=
  q_get hC hR 7 (C := RX5) (T := TX5) (N := 11) (by decide) (qsh_228 G ad _) rfl qin_X5 (by decide) hlink rfl hdg kk
theorem qput_X5_7 (hC : qCx p c0 cc nL s m args meth own D G ad) (hR : qRp D G ad s w H locs) {index : Nat} (hlink : Cond.fieldLink own index "QuakeRehearsal" "errorPlace" "I" ∈ lw_gd) {v : Int32} (hn : narrow .int (.int v) = .int v ∧ fits .int (.int v) = true) (hdg : decode cc pc = .ok (.putfield index, 3)) (kk : ∀ (w1 : qMem) (H : Heap) (locs : List Loc), w1 = quw w 228 7 v → qRp D G ad s w1 H locs → W p l e R s m args below meth c0 H locs cells slots Q (F0 m (pc + 3) ls rest)) : W p l e R s m args below meth c0 H locs cells slots Q (F0 m pc ls (.int v :: .ref (ad 228) :: rest)) :=
  q_put hC hR 7 (C := RX5) (T := TX5) (N := 11) (fs := qfs_X5 ad) (ty := .int) (by decide) (fun f => qsh_228 G ad f) (fun _ => rfl) (fun _ => (by decide : 7 < 11)) rfl qin_X5 tyX5 tyX5_ok nmX5 (by decide) hlink rfl (by decide +kernel) hn hdg kk
theorem qget_X5_8 (hC : qCx p c0 cc nL s m args meth own D G ad) (hR : qRp D G ad s w H locs) {index : Nat} (hlink : Cond.fieldLink own index "QuakeRehearsal" "reason" "I" ∈ lw_gd) (hdg : decode cc pc = .ok (.getfield index, 3)) (kk : W p l e R s m args below meth c0 H locs cells slots Q (F0 m (pc + 3) ls (.int (w 228 8) :: rest))) : W p l e R s m args below meth c0 H locs cells slots Q (F0 m pc ls (.ref (ad 228) :: rest)) :=
  q_get hC hR 8 (C := RX5) (T := TX5) (N := 11) (by decide) (qsh_228 G ad _) rfl qin_X5 (by decide) hlink rfl hdg kk
theorem qput_X5_8 (hC : qCx p c0 cc nL s m args meth own D G ad) (hR : qRp D G ad s w H locs) {index : Nat} (hlink : Cond.fieldLink own index "QuakeRehearsal" "reason" "I" ∈ lw_gd) {v : Int32} (hn : narrow .int (.int v) = .int v ∧ fits .int (.int v) = true) (hdg : decode cc pc = .ok (.putfield index, 3)) (kk : ∀ (w1 : qMem) (H : Heap) (locs : List Loc), w1 = quw w 228 8 v → qRp D G ad s w1 H locs → W p l e R s m args below meth c0 H locs cells slots Q (F0 m (pc + 3) ls rest)) : W p l e R s m args below meth c0 H locs cells slots Q (F0 m pc ls (.int v :: .ref (ad 228) :: rest)) :=
  q_put hC hR 8 (C := RX5) (T := TX5) (N := 11) (fs := qfs_X5 ad) (ty := .int) (by decide) (fun f => qsh_228 G ad f) (fun _ => rfl) (fun _ => (by decide : 8 < 11)) rfl qin_X5 tyX5 tyX5_ok nmX5 (by decide) hlink rfl (by decide +kernel) hn hdg kk
theorem qget_X5_9 (hC : qCx p c0 cc nL s m args meth own D G ad) (hR : qRp D G ad s w H locs) {index : Nat} (hlink : Cond.fieldLink own index "QuakeRehearsal" "detail" "I" ∈ lw_gd) (hdg : decode cc pc = .ok (.getfield index, 3)) (kk : W p l e R s m args below meth c0 H locs cells slots Q (F0 m (pc + 3) ls (.int (w 228 9) :: rest))) : W p l e R s m args below meth c0 H locs cells slots Q (F0 m pc ls (.ref (ad 228) :: rest)) :=
  q_get hC hR 9 (C := RX5) (T := TX5) (N := 11) (by decide) (qsh_228 G ad _) rfl qin_X5 (by decide) hlink rfl hdg kk
theorem qput_X5_9 (hC : qCx p c0 cc nL s m args meth own D G ad) (hR : qRp D G ad s w H locs) {index : Nat} (hlink : Cond.fieldLink own index "QuakeRehearsal" "detail" "I" ∈ lw_gd) {v : Int32} (hn : narrow .int (.int v) = .int v ∧ fits .int (.int v) = true) (hdg : decode cc pc = .ok (.putfield index, 3)) (kk : ∀ (w1 : qMem) (H : Heap) (locs : List Loc), w1 = quw w 228 9 v → qRp D G ad s w1 H locs → W p l e R s m args below meth c0 H locs cells slots Q (F0 m (pc + 3) ls rest)) : W p l e R s m args below meth c0 H locs cells slots Q (F0 m pc ls (.int v :: .ref (ad 228) :: rest)) :=
  q_put hC hR 9 (C := RX5) (T := TX5) (N := 11) (fs := qfs_X5 ad) (ty := .int) (by decide) (fun f => qsh_228 G ad f) (fun _ => rfl) (fun _ => (by decide : 9 < 11)) rfl qin_X5 tyX5 tyX5_ok nmX5 (by decide) hlink rfl (by decide +kernel) hn hdg kk
theorem qget_X5_10 (hC : qCx p c0 cc nL s m args meth own D G ad) (hR : qRp D G ad s w H locs) {index : Nat} (hlink : Cond.fieldLink own index "QuakeRehearsal" "answer" "I" ∈ lw_gd) (hdg : decode cc pc = .ok (.getfield index, 3)) (kk : W p l e R s m args below meth c0 H locs cells slots Q (F0 m (pc + 3) ls (.int (w 228 10) :: rest))) : W p l e R s m args below meth c0 H locs cells slots Q (F0 m pc ls (.ref (ad 228) :: rest)) :=
  q_get hC hR 10 (C := RX5) (T := TX5) (N := 11) (by decide) (qsh_228 G ad _) rfl qin_X5 (by decide) hlink rfl hdg kk
theorem qput_X5_10 (hC : qCx p c0 cc nL s m args meth own D G ad) (hR : qRp D G ad s w H locs) {index : Nat} (hlink : Cond.fieldLink own index "QuakeRehearsal" "answer" "I" ∈ lw_gd) {v : Int32} (hn : narrow .int (.int v) = .int v ∧ fits .int (.int v) = true) (hdg : decode cc pc = .ok (.putfield index, 3)) (kk : ∀ (w1 : qMem) (H : Heap) (locs : List Loc), w1 = quw w 228 10 v → qRp D G ad s w1 H locs → W p l e R s m args below meth c0 H locs cells slots Q (F0 m (pc + 3) ls rest)) : W p l e R s m args below meth c0 H locs cells slots Q (F0 m pc ls (.int v :: .ref (ad 228) :: rest)) :=
  q_put hC hR 10 (C := RX5) (T := TX5) (N := 11) (fs := qfs_X5 ad) (ty := .int) (by decide) (fun f => qsh_228 G ad f) (fun _ => rfl) (fun _ => (by decide : 10 < 11)) rfl qin_X5 tyX5 tyX5_ok nmX5 (by decide) hlink rfl (by decide +kernel) hn hdg kk
theorem qget_X6_0 (hC : qCx p c0 cc nL s m args meth own D G ad) (hR : qRp D G ad s w H locs) {index : Nat} (hlink : Cond.fieldLink own index "QuakeRehearsalModel" "s" "[I" ∈ lw_gd) (hdg : decode cc pc = .ok (.getfield index, 3)) (kk : W p l e R s m args below meth c0 H locs cells slots Q (F0 m (pc + 3) ls (.ref (ad 239) :: rest))) : W p l e R s m args below meth c0 H locs cells slots Q (F0 m pc ls (.ref (ad 238) :: rest)) :=
  q_get hC hR 0 (C := RX6) (T := TX6) (N := 21) (by decide) (qsh_238 G ad _) rfl qin_X6 (by decide) hlink rfl hdg kk
theorem qget_X6_1 (hC : qCx p c0 cc nL s m args meth own D G ad) (hR : qRp D G ad s w H locs) {index : Nat} (hlink : Cond.fieldLink own index "QuakeRehearsalModel" "before" "[I" ∈ lw_gd) (hdg : decode cc pc = .ok (.getfield index, 3)) (kk : W p l e R s m args below meth c0 H locs cells slots Q (F0 m (pc + 3) ls (.ref (ad 240) :: rest))) : W p l e R s m args below meth c0 H locs cells slots Q (F0 m pc ls (.ref (ad 238) :: rest)) :=
  q_get hC hR 1 (C := RX6) (T := TX6) (N := 21) (by decide) (qsh_238 G ad _) rfl qin_X6 (by decide) hlink rfl hdg kk
theorem qget_X6_2 (hC : qCx p c0 cc nL s m args meth own D G ad) (hR : qRp D G ad s w H locs) {index : Nat} (hlink : Cond.fieldLink own index "QuakeRehearsalModel" "aside" "[I" ∈ lw_gd) (hdg : decode cc pc = .ok (.getfield index, 3)) (kk : W p l e R s m args below meth c0 H locs cells slots Q (F0 m (pc + 3) ls (.ref (ad 241) :: rest))) : W p l e R s m args below meth c0 H locs cells slots Q (F0 m pc ls (.ref (ad 238) :: rest)) :=
  q_get hC hR 2 (C := RX6) (T := TX6) (N := 21) (by decide) (qsh_238 G ad _) rfl qin_X6 (by decide) hlink rfl hdg kk
theorem qget_X6_3 (hC : qCx p c0 cc nL s m args meth own D G ad) (hR : qRp D G ad s w H locs) {index : Nat} (hlink : Cond.fieldLink own index "QuakeRehearsalModel" "saved" "[I" ∈ lw_gd) (hdg : decode cc pc = .ok (.getfield index, 3)) (kk : W p l e R s m args below meth c0 H locs cells slots Q (F0 m (pc + 3) ls (.ref (ad 242) :: rest))) : W p l e R s m args below meth c0 H locs cells slots Q (F0 m pc ls (.ref (ad 238) :: rest)) :=
  q_get hC hR 3 (C := RX6) (T := TX6) (N := 21) (by decide) (qsh_238 G ad _) rfl qin_X6 (by decide) hlink rfl hdg kk
theorem qget_X6_4 (hC : qCx p c0 cc nL s m args meth own D G ad) (hR : qRp D G ad s w H locs) {index : Nat} (hlink : Cond.fieldLink own index "QuakeRehearsalModel" "isSaved" "Z" ∈ lw_gd) (hdg : decode cc pc = .ok (.getfield index, 3)) (kk : W p l e R s m args below meth c0 H locs cells slots Q (F0 m (pc + 3) ls (.int (w 238 4) :: rest))) : W p l e R s m args below meth c0 H locs cells slots Q (F0 m pc ls (.ref (ad 238) :: rest)) :=
  q_get hC hR 4 (C := RX6) (T := TX6) (N := 21) (by decide) (qsh_238 G ad _) rfl qin_X6 (by decide) hlink rfl hdg kk
theorem qput_X6_4 (hC : qCx p c0 cc nL s m args meth own D G ad) (hR : qRp D G ad s w H locs) {index : Nat} (hlink : Cond.fieldLink own index "QuakeRehearsalModel" "isSaved" "Z" ∈ lw_gd) {v : Int32} (hn : narrow .boolean (.int v) = .int v ∧ fits .boolean (.int v) = true) (hdg : decode cc pc = .ok (.putfield index, 3)) (kk : ∀ (w1 : qMem) (H : Heap) (locs : List Loc), w1 = quw w 238 4 v → qRp D G ad s w1 H locs → W p l e R s m args below meth c0 H locs cells slots Q (F0 m (pc + 3) ls rest)) : W p l e R s m args below meth c0 H locs cells slots Q (F0 m pc ls (.int v :: .ref (ad 238) :: rest)) :=
  q_put hC hR 4 (C := RX6) (T := TX6) (N := 21) (fs := qfs_X6 ad) (ty := .boolean) (by decide) (fun f => qsh_238 G ad f) (fun _ => rfl) (fun _ => (by decide : 4 < 21)) rfl qin_X6 tyX6 tyX6_ok nmX6 (by decide) hlink rfl (by decide +kernel) hn hdg kk
theorem qget_X6_5 (hC : qCx p c0 cc nL s m args meth own D G ad) (hR : qRp D G ad s w H locs) {index : Nat} (hlink : Cond.fieldLink own index "QuakeRehearsalModel" "past" "[I" ∈ lw_gd) (hdg : decode cc pc = .ok (.getfield index, 3)) (kk : W p l e R s m args below meth c0 H locs cells slots Q (F0 m (pc + 3) ls (.ref (ad 243) :: rest))) : W p l e R s m args below meth c0 H locs cells slots Q (F0 m pc ls (.ref (ad 238) :: rest)) :=
  q_get hC hR 5 (C := RX6) (T := TX6) (N := 21) (by decide) (qsh_238 G ad _) rfl qin_X6 (by decide) hlink rfl hdg kk
theorem qget_X6_6 (hC : qCx p c0 cc nL s m args meth own D G ad) (hR : qRp D G ad s w H locs) {index : Nat} (hlink : Cond.fieldLink own index "QuakeRehearsalModel" "pastMany" "I" ∈ lw_gd) (hdg : decode cc pc = .ok (.getfield index, 3)) (kk : W p l e R s m args below meth c0 H locs cells slots Q (F0 m (pc + 3) ls (.int (w 238 6) :: rest))) : W p l e R s m args below meth c0 H locs cells slots Q (F0 m pc ls (.ref (ad 238) :: rest)) :=
  q_get hC hR 6 (C := RX6) (T := TX6) (N := 21) (by decide) (qsh_238 G ad _) rfl qin_X6 (by decide) hlink rfl hdg kk
theorem qput_X6_6 (hC : qCx p c0 cc nL s m args meth own D G ad) (hR : qRp D G ad s w H locs) {index : Nat} (hlink : Cond.fieldLink own index "QuakeRehearsalModel" "pastMany" "I" ∈ lw_gd) {v : Int32} (hn : narrow .int (.int v) = .int v ∧ fits .int (.int v) = true) (hdg : decode cc pc = .ok (.putfield index, 3)) (kk : ∀ (w1 : qMem) (H : Heap) (locs : List Loc), w1 = quw w 238 6 v → qRp D G ad s w1 H locs → W p l e R s m args below meth c0 H locs cells slots Q (F0 m (pc + 3) ls rest)) : W p l e R s m args below meth c0 H locs cells slots Q (F0 m pc ls (.int v :: .ref (ad 238) :: rest)) :=
  q_put hC hR 6 (C := RX6) (T := TX6) (N := 21) (fs := qfs_X6 ad) (ty := .int) (by decide) (fun f => qsh_238 G ad f) (fun _ => rfl) (fun _ => (by decide : 6 < 21)) rfl qin_X6 tyX6 tyX6_ok nmX6 (by decide) hlink rfl (by decide +kernel) hn hdg kk
theorem qget_X6_7 (hC : qCx p c0 cc nL s m args meth own D G ad) (hR : qRp D G ad s w H locs) {index : Nat} (hlink : Cond.fieldLink own index "QuakeRehearsalModel" "thrown" "I" ∈ lw_gd) (hdg : decode cc pc = .ok (.getfield index, 3)) (kk : W p l e R s m args below meth c0 H locs cells slots Q (F0 m (pc + 3) ls (.int (w 238 7) :: rest))) : W p l e R s m args below meth c0 H locs cells slots Q (F0 m pc ls (.ref (ad 238) :: rest)) :=
  q_get hC hR 7 (C := RX6) (T := TX6) (N := 21) (by decide) (qsh_238 G ad _) rfl qin_X6 (by decide) hlink rfl hdg kk
theorem qput_X6_7 (hC : qCx p c0 cc nL s m args meth own D G ad) (hR : qRp D G ad s w H locs) {index : Nat} (hlink : Cond.fieldLink own index "QuakeRehearsalModel" "thrown" "I" ∈ lw_gd) {v : Int32} (hn : narrow .int (.int v) = .int v ∧ fits .int (.int v) = true) (hdg : decode cc pc = .ok (.putfield index, 3)) (kk : ∀ (w1 : qMem) (H : Heap) (locs : List Loc), w1 = quw w 238 7 v → qRp D G ad s w1 H locs → W p l e R s m args below meth c0 H locs cells slots Q (F0 m (pc + 3) ls rest)) : W p l e R s m args below meth c0 H locs cells slots Q (F0 m pc ls (.int v :: .ref (ad 238) :: rest)) :=
  q_put hC hR 7 (C := RX6) (T := TX6) (N := 21) (fs := qfs_X6 ad) (ty := .int) (by decide) (fun f => qsh_238 G ad f) (fun _ => rfl) (fun _ => (by decide : 7 < 21)) rfl qin_X6 tyX6 tyX6_ok nmX6 (by decide) hlink rfl (by decide +kernel) hn hdg kk
theorem qget_X6_8 (hC : qCx p c0 cc nL s m args meth own D G ad) (hR : qRp D G ad s w H locs) {index : Nat} (hlink : Cond.fieldLink own index "QuakeRehearsalModel" "reason" "I" ∈ lw_gd) (hdg : decode cc pc = .ok (.getfield index, 3)) (kk : W p l e R s m args below meth c0 H locs cells slots Q (F0 m (pc + 3) ls (.int (w 238 8) :: rest))) : W p l e R s m args below meth c0 H locs cells slots Q (F0 m pc ls (.ref (ad 238) :: rest)) :=
  q_get hC hR 8 (C := RX6) (T := TX6) (N := 21) (by decide) (qsh_238 G ad _) rfl qin_X6 (by decide) hlink rfl hdg kk
theorem qput_X6_8 (hC : qCx p c0 cc nL s m args meth own D G ad) (hR : qRp D G ad s w H locs) {index : Nat} (hlink : Cond.fieldLink own index "QuakeRehearsalModel" "reason" "I" ∈ lw_gd) {v : Int32} (hn : narrow .int (.int v) = .int v ∧ fits .int (.int v) = true) (hdg : decode cc pc = .ok (.putfield index, 3)) (kk : ∀ (w1 : qMem) (H : Heap) (locs : List Loc), w1 = quw w 238 8 v → qRp D G ad s w1 H locs → W p l e R s m args below meth c0 H locs cells slots Q (F0 m (pc + 3) ls rest)) : W p l e R s m args below meth c0 H locs cells slots Q (F0 m pc ls (.int v :: .ref (ad 238) :: rest)) :=
  q_put hC hR 8 (C := RX6) (T := TX6) (N := 21) (fs := qfs_X6 ad) (ty := .int) (by decide) (fun f => qsh_238 G ad f) (fun _ => rfl) (fun _ => (by decide : 8 < 21)) rfl qin_X6 tyX6 tyX6_ok nmX6 (by decide) hlink rfl (by decide +kernel) hn hdg kk
theorem qget_X6_9 (hC : qCx p c0 cc nL s m args meth own D G ad) (hR : qRp D G ad s w H locs) {index : Nat} (hlink : Cond.fieldLink own index "QuakeRehearsalModel" "detail" "I" ∈ lw_gd) (hdg : decode cc pc = .ok (.getfield index, 3)) (kk : W p l e R s m args below meth c0 H locs cells slots Q (F0 m (pc + 3) ls (.int (w 238 9) :: rest))) : W p l e R s m args below meth c0 H locs cells slots Q (F0 m pc ls (.ref (ad 238) :: rest)) :=
  q_get hC hR 9 (C := RX6) (T := TX6) (N := 21) (by decide) (qsh_238 G ad _) rfl qin_X6 (by decide) hlink rfl hdg kk
theorem qput_X6_9 (hC : qCx p c0 cc nL s m args meth own D G ad) (hR : qRp D G ad s w H locs) {index : Nat} (hlink : Cond.fieldLink own index "QuakeRehearsalModel" "detail" "I" ∈ lw_gd) {v : Int32} (hn : narrow .int (.int v) = .int v ∧ fits .int (.int v) = true) (hdg : decode cc pc = .ok (.putfield index, 3)) (kk : ∀ (w1 : qMem) (H : Heap) (locs : List Loc), w1 = quw w 238 9 v → qRp D G ad s w1 H locs → W p l e R s m args below meth c0 H locs cells slots Q (F0 m (pc + 3) ls rest)) : W p l e R s m args below meth c0 H locs cells slots Q (F0 m pc ls (.int v :: .ref (ad 238) :: rest)) :=
  q_put hC hR 9 (C := RX6) (T := TX6) (N := 21) (fs := qfs_X6 ad) (ty := .int) (by decide) (fun f => qsh_238 G ad f) (fun _ => rfl) (fun _ => (by decide : 9 < 21)) rfl qin_X6 tyX6 tyX6_ok nmX6 (by decide) hlink rfl (by decide +kernel) hn hdg kk
theorem qget_X6_10 (hC : qCx p c0 cc nL s m args meth own D G ad) (hR : qRp D G ad s w H locs) {index : Nat} (hlink : Cond.fieldLink own index "QuakeRehearsalModel" "isRefused" "Z" ∈ lw_gd) (hdg : decode cc pc = .ok (.getfield index, 3)) (kk : W p l e R s m args below meth c0 H locs cells slots Q (F0 m (pc + 3) ls (.int (w 238 10) :: rest))) : W p l e R s m args below meth c0 H locs cells slots Q (F0 m pc ls (.ref (ad 238) :: rest)) :=
  q_get hC hR 10 (C := RX6) (T := TX6) (N := 21) (by decide) (qsh_238 G ad _) rfl qin_X6 (by decide) hlink rfl hdg kk
theorem qput_X6_10 (hC : qCx p c0 cc nL s m args meth own D G ad) (hR : qRp D G ad s w H locs) {index : Nat} (hlink : Cond.fieldLink own index "QuakeRehearsalModel" "isRefused" "Z" ∈ lw_gd) {v : Int32} (hn : narrow .boolean (.int v) = .int v ∧ fits .boolean (.int v) = true) (hdg : decode cc pc = .ok (.putfield index, 3)) (kk : ∀ (w1 : qMem) (H : Heap) (locs : List Loc), w1 = quw w 238 10 v → qRp D G ad s w1 H locs → W p l e R s m args below meth c0 H locs cells slots Q (F0 m (pc + 3) ls rest)) : W p l e R s m args below meth c0 H locs cells slots Q (F0 m pc ls (.int v :: .ref (ad 238) :: rest)) :=
  q_put hC hR 10 (C := RX6) (T := TX6) (N := 21) (fs := qfs_X6 ad) (ty := .boolean) (by decide) (fun f => qsh_238 G ad f) (fun _ => rfl) (fun _ => (by decide : 10 < 21)) rfl qin_X6 tyX6 tyX6_ok nmX6 (by decide) hlink rfl (by decide +kernel) hn hdg kk
theorem qget_X6_11 (hC : qCx p c0 cc nL s m args meth own D G ad) (hR : qRp D G ad s w H locs) {index : Nat} (hlink : Cond.fieldLink own index "QuakeRehearsalModel" "brokeMany" "I" ∈ lw_gd) (hdg : decode cc pc = .ok (.getfield index, 3)) (kk : W p l e R s m args below meth c0 H locs cells slots Q (F0 m (pc + 3) ls (.int (w 238 11) :: rest))) : W p l e R s m args below meth c0 H locs cells slots Q (F0 m pc ls (.ref (ad 238) :: rest)) :=
  q_get hC hR 11 (C := RX6) (T := TX6) (N := 21) (by decide) (qsh_238 G ad _) rfl qin_X6 (by decide) hlink rfl hdg kk
theorem qput_X6_11 (hC : qCx p c0 cc nL s m args meth own D G ad) (hR : qRp D G ad s w H locs) {index : Nat} (hlink : Cond.fieldLink own index "QuakeRehearsalModel" "brokeMany" "I" ∈ lw_gd) {v : Int32} (hn : narrow .int (.int v) = .int v ∧ fits .int (.int v) = true) (hdg : decode cc pc = .ok (.putfield index, 3)) (kk : ∀ (w1 : qMem) (H : Heap) (locs : List Loc), w1 = quw w 238 11 v → qRp D G ad s w1 H locs → W p l e R s m args below meth c0 H locs cells slots Q (F0 m (pc + 3) ls rest)) : W p l e R s m args below meth c0 H locs cells slots Q (F0 m pc ls (.int v :: .ref (ad 238) :: rest)) :=
  q_put hC hR 11 (C := RX6) (T := TX6) (N := 21) (fs := qfs_X6 ad) (ty := .int) (by decide) (fun f => qsh_238 G ad f) (fun _ => rfl) (fun _ => (by decide : 11 < 21)) rfl qin_X6 tyX6 tyX6_ok nmX6 (by decide) hlink rfl (by decide +kernel) hn hdg kk
theorem qget_X6_12 (hC : qCx p c0 cc nL s m args meth own D G ad) (hR : qRp D G ad s w H locs) {index : Nat} (hlink : Cond.fieldLink own index "QuakeRehearsalModel" "line" "[C" ∈ lw_gd) (hdg : decode cc pc = .ok (.getfield index, 3)) (kk : W p l e R s m args below meth c0 H locs cells slots Q (F0 m (pc + 3) ls (.ref (ad 244) :: rest))) : W p l e R s m args below meth c0 H locs cells slots Q (F0 m pc ls (.ref (ad 238) :: rest)) :=
  q_get hC hR 12 (C := RX6) (T := TX6) (N := 21) (by decide) (qsh_238 G ad _) rfl qin_X6 (by decide) hlink rfl hdg kk
theorem qget_X6_13 (hC : qCx p c0 cc nL s m args meth own D G ad) (hR : qRp D G ad s w H locs) {index : Nat} (hlink : Cond.fieldLink own index "QuakeRehearsalModel" "lineMany" "I" ∈ lw_gd) (hdg : decode cc pc = .ok (.getfield index, 3)) (kk : W p l e R s m args below meth c0 H locs cells slots Q (F0 m (pc + 3) ls (.int (w 238 13) :: rest))) : W p l e R s m args below meth c0 H locs cells slots Q (F0 m pc ls (.ref (ad 238) :: rest)) :=
  q_get hC hR 13 (C := RX6) (T := TX6) (N := 21) (by decide) (qsh_238 G ad _) rfl qin_X6 (by decide) hlink rfl hdg kk
theorem qput_X6_13 (hC : qCx p c0 cc nL s m args meth own D G ad) (hR : qRp D G ad s w H locs) {index : Nat} (hlink : Cond.fieldLink own index "QuakeRehearsalModel" "lineMany" "I" ∈ lw_gd) {v : Int32} (hn : narrow .int (.int v) = .int v ∧ fits .int (.int v) = true) (hdg : decode cc pc = .ok (.putfield index, 3)) (kk : ∀ (w1 : qMem) (H : Heap) (locs : List Loc), w1 = quw w 238 13 v → qRp D G ad s w1 H locs → W p l e R s m args below meth c0 H locs cells slots Q (F0 m (pc + 3) ls rest)) : W p l e R s m args below meth c0 H locs cells slots Q (F0 m pc ls (.int v :: .ref (ad 238) :: rest)) :=
  q_put hC hR 13 (C := RX6) (T := TX6) (N := 21) (fs := qfs_X6 ad) (ty := .int) (by decide) (fun f => qsh_238 G ad f) (fun _ => rfl) (fun _ => (by decide : 13 < 21)) rfl qin_X6 tyX6 tyX6_ok nmX6 (by decide) hlink rfl (by decide +kernel) hn hdg kk
theorem qget_X6_14 (hC : qCx p c0 cc nL s m args meth own D G ad) (hR : qRp D G ad s w H locs) {index : Nat} (hlink : Cond.fieldLink own index "QuakeRehearsalModel" "text" "[C" ∈ lw_gd) (hdg : decode cc pc = .ok (.getfield index, 3)) (kk : W p l e R s m args below meth c0 H locs cells slots Q (F0 m (pc + 3) ls (.ref (ad 245) :: rest))) : W p l e R s m args below meth c0 H locs cells slots Q (F0 m pc ls (.ref (ad 238) :: rest)) :=
  q_get hC hR 14 (C := RX6) (T := TX6) (N := 21) (by decide) (qsh_238 G ad _) rfl qin_X6 (by decide) hlink rfl hdg kk
theorem qget_X6_15 (hC : qCx p c0 cc nL s m args meth own D G ad) (hR : qRp D G ad s w H locs) {index : Nat} (hlink : Cond.fieldLink own index "QuakeRehearsalModel" "length" "I" ∈ lw_gd) (hdg : decode cc pc = .ok (.getfield index, 3)) (kk : W p l e R s m args below meth c0 H locs cells slots Q (F0 m (pc + 3) ls (.int (w 238 15) :: rest))) : W p l e R s m args below meth c0 H locs cells slots Q (F0 m pc ls (.ref (ad 238) :: rest)) :=
  q_get hC hR 15 (C := RX6) (T := TX6) (N := 21) (by decide) (qsh_238 G ad _) rfl qin_X6 (by decide) hlink rfl hdg kk
theorem qput_X6_15 (hC : qCx p c0 cc nL s m args meth own D G ad) (hR : qRp D G ad s w H locs) {index : Nat} (hlink : Cond.fieldLink own index "QuakeRehearsalModel" "length" "I" ∈ lw_gd) {v : Int32} (hn : narrow .int (.int v) = .int v ∧ fits .int (.int v) = true) (hdg : decode cc pc = .ok (.putfield index, 3)) (kk : ∀ (w1 : qMem) (H : Heap) (locs : List Loc), w1 = quw w 238 15 v → qRp D G ad s w1 H locs → W p l e R s m args below meth c0 H locs cells slots Q (F0 m (pc + 3) ls rest)) : W p l e R s m args below meth c0 H locs cells slots Q (F0 m pc ls (.int v :: .ref (ad 238) :: rest)) :=
  q_put hC hR 15 (C := RX6) (T := TX6) (N := 21) (fs := qfs_X6 ad) (ty := .int) (by decide) (fun f => qsh_238 G ad f) (fun _ => rfl) (fun _ => (by decide : 15 < 21)) rfl qin_X6 tyX6 tyX6_ok nmX6 (by decide) hlink rfl (by decide +kernel) hn hdg kk
theorem qget_X6_16 (hC : qCx p c0 cc nL s m args meth own D G ad) (hR : qRp D G ad s w H locs) {index : Nat} (hlink : Cond.fieldLink own index "QuakeRehearsalModel" "at" "I" ∈ lw_gd) (hdg : decode cc pc = .ok (.getfield index, 3)) (kk : W p l e R s m args below meth c0 H locs cells slots Q (F0 m (pc + 3) ls (.int (w 238 16) :: rest))) : W p l e R s m args below meth c0 H locs cells slots Q (F0 m pc ls (.ref (ad 238) :: rest)) :=
  q_get hC hR 16 (C := RX6) (T := TX6) (N := 21) (by decide) (qsh_238 G ad _) rfl qin_X6 (by decide) hlink rfl hdg kk
theorem qput_X6_16 (hC : qCx p c0 cc nL s m args meth own D G ad) (hR : qRp D G ad s w H locs) {index : Nat} (hlink : Cond.fieldLink own index "QuakeRehearsalModel" "at" "I" ∈ lw_gd) {v : Int32} (hn : narrow .int (.int v) = .int v ∧ fits .int (.int v) = true) (hdg : decode cc pc = .ok (.putfield index, 3)) (kk : ∀ (w1 : qMem) (H : Heap) (locs : List Loc), w1 = quw w 238 16 v → qRp D G ad s w1 H locs → W p l e R s m args below meth c0 H locs cells slots Q (F0 m (pc + 3) ls rest)) : W p l e R s m args below meth c0 H locs cells slots Q (F0 m pc ls (.int v :: .ref (ad 238) :: rest)) :=
  q_put hC hR 16 (C := RX6) (T := TX6) (N := 21) (fs := qfs_X6 ad) (ty := .int) (by decide) (fun f => qsh_238 G ad f) (fun _ => rfl) (fun _ => (by decide : 16 < 21)) rfl qin_X6 tyX6 tyX6_ok nmX6 (by decide) hlink rfl (by decide +kernel) hn hdg kk
theorem qget_X6_17 (hC : qCx p c0 cc nL s m args meth own D G ad) (hR : qRp D G ad s w H locs) {index : Nat} (hlink : Cond.fieldLink own index "QuakeRehearsalModel" "isWrong" "Z" ∈ lw_gd) (hdg : decode cc pc = .ok (.getfield index, 3)) (kk : W p l e R s m args below meth c0 H locs cells slots Q (F0 m (pc + 3) ls (.int (w 238 17) :: rest))) : W p l e R s m args below meth c0 H locs cells slots Q (F0 m pc ls (.ref (ad 238) :: rest)) :=
  q_get hC hR 17 (C := RX6) (T := TX6) (N := 21) (by decide) (qsh_238 G ad _) rfl qin_X6 (by decide) hlink rfl hdg kk
theorem qput_X6_17 (hC : qCx p c0 cc nL s m args meth own D G ad) (hR : qRp D G ad s w H locs) {index : Nat} (hlink : Cond.fieldLink own index "QuakeRehearsalModel" "isWrong" "Z" ∈ lw_gd) {v : Int32} (hn : narrow .boolean (.int v) = .int v ∧ fits .boolean (.int v) = true) (hdg : decode cc pc = .ok (.putfield index, 3)) (kk : ∀ (w1 : qMem) (H : Heap) (locs : List Loc), w1 = quw w 238 17 v → qRp D G ad s w1 H locs → W p l e R s m args below meth c0 H locs cells slots Q (F0 m (pc + 3) ls rest)) : W p l e R s m args below meth c0 H locs cells slots Q (F0 m pc ls (.int v :: .ref (ad 238) :: rest)) :=
  q_put hC hR 17 (C := RX6) (T := TX6) (N := 21) (fs := qfs_X6 ad) (ty := .boolean) (by decide) (fun f => qsh_238 G ad f) (fun _ => rfl) (fun _ => (by decide : 17 < 21)) rfl qin_X6 tyX6 tyX6_ok nmX6 (by decide) hlink rfl (by decide +kernel) hn hdg kk
theorem qget_X6_18 (hC : qCx p c0 cc nL s m args meth own D G ad) (hR : qRp D G ad s w H locs) {index : Nat} (hlink : Cond.fieldLink own index "QuakeRehearsalModel" "errorAt" "I" ∈ lw_gd) (hdg : decode cc pc = .ok (.getfield index, 3)) (kk : W p l e R s m args below meth c0 H locs cells slots Q (F0 m (pc + 3) ls (.int (w 238 18) :: rest))) : W p l e R s m args below meth c0 H locs cells slots Q (F0 m pc ls (.ref (ad 238) :: rest)) :=
  q_get hC hR 18 (C := RX6) (T := TX6) (N := 21) (by decide) (qsh_238 G ad _) rfl qin_X6 (by decide) hlink rfl hdg kk
theorem qput_X6_18 (hC : qCx p c0 cc nL s m args meth own D G ad) (hR : qRp D G ad s w H locs) {index : Nat} (hlink : Cond.fieldLink own index "QuakeRehearsalModel" "errorAt" "I" ∈ lw_gd) {v : Int32} (hn : narrow .int (.int v) = .int v ∧ fits .int (.int v) = true) (hdg : decode cc pc = .ok (.putfield index, 3)) (kk : ∀ (w1 : qMem) (H : Heap) (locs : List Loc), w1 = quw w 238 18 v → qRp D G ad s w1 H locs → W p l e R s m args below meth c0 H locs cells slots Q (F0 m (pc + 3) ls rest)) : W p l e R s m args below meth c0 H locs cells slots Q (F0 m pc ls (.int v :: .ref (ad 238) :: rest)) :=
  q_put hC hR 18 (C := RX6) (T := TX6) (N := 21) (fs := qfs_X6 ad) (ty := .int) (by decide) (fun f => qsh_238 G ad f) (fun _ => rfl) (fun _ => (by decide : 18 < 21)) rfl qin_X6 tyX6 tyX6_ok nmX6 (by decide) hlink rfl (by decide +kernel) hn hdg kk
theorem qget_X6_19 (hC : qCx p c0 cc nL s m args meth own D G ad) (hR : qRp D G ad s w H locs) {index : Nat} (hlink : Cond.fieldLink own index "QuakeRehearsalModel" "orders" "[I" ∈ lw_gd) (hdg : decode cc pc = .ok (.getfield index, 3)) (kk : W p l e R s m args below meth c0 H locs cells slots Q (F0 m (pc + 3) ls (.ref (ad 246) :: rest))) : W p l e R s m args below meth c0 H locs cells slots Q (F0 m pc ls (.ref (ad 238) :: rest)) :=
  q_get hC hR 19 (C := RX6) (T := TX6) (N := 21) (by decide) (qsh_238 G ad _) rfl qin_X6 (by decide) hlink rfl hdg kk
theorem qget_X6_20 (hC : qCx p c0 cc nL s m args meth own D G ad) (hR : qRp D G ad s w H locs) {index : Nat} (hlink : Cond.fieldLink own index "QuakeRehearsalModel" "orderMany" "I" ∈ lw_gd) (hdg : decode cc pc = .ok (.getfield index, 3)) (kk : W p l e R s m args below meth c0 H locs cells slots Q (F0 m (pc + 3) ls (.int (w 238 20) :: rest))) : W p l e R s m args below meth c0 H locs cells slots Q (F0 m pc ls (.ref (ad 238) :: rest)) :=
  q_get hC hR 20 (C := RX6) (T := TX6) (N := 21) (by decide) (qsh_238 G ad _) rfl qin_X6 (by decide) hlink rfl hdg kk
theorem qput_X6_20 (hC : qCx p c0 cc nL s m args meth own D G ad) (hR : qRp D G ad s w H locs) {index : Nat} (hlink : Cond.fieldLink own index "QuakeRehearsalModel" "orderMany" "I" ∈ lw_gd) {v : Int32} (hn : narrow .int (.int v) = .int v ∧ fits .int (.int v) = true) (hdg : decode cc pc = .ok (.putfield index, 3)) (kk : ∀ (w1 : qMem) (H : Heap) (locs : List Loc), w1 = quw w 238 20 v → qRp D G ad s w1 H locs → W p l e R s m args below meth c0 H locs cells slots Q (F0 m (pc + 3) ls rest)) : W p l e R s m args below meth c0 H locs cells slots Q (F0 m pc ls (.int v :: .ref (ad 238) :: rest)) :=
  q_put hC hR 20 (C := RX6) (T := TX6) (N := 21) (fs := qfs_X6 ad) (ty := .int) (by decide) (fun f => qsh_238 G ad f) (fun _ => rfl) (fun _ => (by decide : 20 < 21)) rfl qin_X6 tyX6 tyX6_ok nmX6 (by decide) hlink rfl (by decide +kernel) hn hdg kk
theorem q_copy (hC : qCx p c0 cc nL s m args meth own D G ad) (hR : qRp D G ad s w H locs) {x y n0 n1 index : Nat} (hx : x < 247) (hy : y < 247) (hs : ∀ f, qshp G ad f x = .inl (G 0, n0, .inl f)) (hs1 : ∀ f, qshp G ad f y = .inl (G 0, n1, .inl f)) {sp dp n : Int32} (hg : qcpy sp dp n n0 n1 = true) (hsz : ls.size = nL) (hlk : Cond.methodLink own index arraycopyName ∈ lw_gd) (hdg : decode cc pc = .ok (.invokestatic index, 3)) (hfr : 1 ≤ R.frames) (hlo : (rest.map fun v => v.category).sum + (nativeFrameWords "java/lang/System" "arraycopy" 5 + 11) ≤ R.locals)
    (kk : ∀ (w1 : qMem) (H : Heap) (locs : List Loc), w1 = qur w y (va_cpy (w x) (w y) sp.toNatClampNeg dp.toNatClampNeg n.toNatClampNeg) → qRp D G ad s w1 H locs → W p l e R s m args below meth c0 H locs cells slots Q (F0 m (pc + 3) ls rest)) : W p l e R s m args below meth c0 H locs cells slots Q (F0 m pc ls (.int n :: .int dp :: .ref (ad y) :: .int sp :: .ref (ad x) :: rest)) := by
  obtain ⟨hx1, hb, hml, hown, hts, hlo1, hK, hJ, hX⟩ := hC
  simp only [qcpy, Bool.and_eq_true, decide_eq_true_eq] at hg
  obtain ⟨g1, g2, g3, g4, g5⟩ := hg
  refine va_copyi hx1 hb (hml.trans hsz.symm) hown (hts _ hlk) (hts _ qk_ac1) (hts _ qk_ac2) (hts _ qk_ac3) hK hR.1 (qD G w hJ _) hR.2 x y 0 0 (by rw [qat G ad w hx, hs]) (by rw [qat G ad w hy, hs1]) rfl rfl rfl g1 g2 g3 g4 g5 (fun _ _ => rfl) hfr hlo hdg (fun H1 locs1 hP hD hS => kk _ H1 locs1 rfl ⟨?_, hS⟩)
  rw [qset G ad w hy _ _ (by rw [hs1])] at hP
  exact hP
end
end
section
/-! NoSuchElementException's constructor of a text links at another place than its fellows' (13): so its throw is walked here; the way is that of the library's throws (one link more general at the bottom of the chain) -/
def q_ownN (own : String) (ic : Nat) (X Y : String) (ix : Nat) (rx : ByteArray) (names : List String) : List Cond :=
  Bundle.throwableAtoms ++ Bundle.throwableSAtoms ++ (Bundle.passSAtoms X Y ix rx ++ Bundle.chainSAtoms Y names) ++
  [.methodLink own ic (Bundle.initS X), .instantiable X 6, .castable X X, .selects X Bundle.tFill0 Bundle.tFill0, .selects X Bundle.tFill Bundle.tFill] ++
  [.lays X Bundle.tN "cause" "Ljava/lang/Throwable;", .lays X Bundle.tN "stackTrace" Bundle.steD, .lays X Bundle.tN "suppressedExceptions" Bundle.listD, .lays X Bundle.tN "detailMessage" "Ljava/lang/String;"] ++
  [.isRef (.static Bundle.tN "UNASSIGNED_STACK" Bundle.steD), .isRef (.static Bundle.tN "SUPPRESSED_SENTINEL" Bundle.listD)] ++
  [.fieldLink Bundle.tN 198 Bundle.tN "backtrace" "Ljava/lang/Object;", .lays Bundle.tN Bundle.tN "backtrace" "Ljava/lang/Object;", .lays X Bundle.tN "backtrace" "Ljava/lang/Object;"]
section
variable {p : Program} {l : Launch} {e : Env} {R : Room} {s : State} {m₀ : MethodId} {args : Array Value} {below : List Frame} {meth : Method} {c : Code} {W0 : State} {locs : List Loc} {cells slots : Nat}
set_option maxHeartbeats 4000000 in
theorem q_ctorN (X : Stand p l e R s m₀ args below meth c W0 locs cells slots) (hexec : p.tables.exec = Jvm.exec) (htr : e.platform.stackTraces = false) {own cls Y : String} {names : List String} {ic ix : Nat} {rx : ByteArray}
    (x0 : decode rx 0 = .ok (.aload_n 0, 1)) (x1 : decode rx 1 = .ok (.aload_n 1, 1)) (x2 : decode rx 2 = .ok (.invokespecial ix, 3)) (x5 : decode rx 5 = .ok (.return_, 1))
    (hown : s.vm.findClass own = some m₀.cls) (hcls : Bundle.fit cls = true) (hY : Bundle.fit Y = true) (hnames : ∀ n ∈ names, Bundle.fit n = true)
    (h : ∀ a ∈ q_ownN own ic cls Y ix rx names, a.before args s = true)
    (hlocs : ∀ x ∈ locs, ∀ cell, s.heap[x.base]? = some cell → cell.vm.isStatics = false)
    {a : Addr} {cX : ClassId} {kX : Class} (hfoundX : s.vm.findClass cls = some cX) (hkX : s.vm.classes[cX]? = some kX) (hcell : W0.heap[a]? = some (freshCell cX kX)) (hnew : s.heap.size ≤ a)
    {msg : Value} (hmsg : msg.isRef = true)
    {g : JFrame} (hg : g.method = m₀) (hsize : g.locals.size = c.maxLocals) (hlocked : g.locked = none) (hentered : g.entered = []) {rest : List Value} (hstack : g.stack = msg :: .ref a :: .ref a :: rest)
    (hd6 : decode c.code g.pc = .ok (.invokespecial ic, 3)) (hd9 : decode c.code (g.pc + 3) = .ok (.athrow, 1)) (hout : ∀ x ∈ c.exceptionTable.toList, covers x (g.pc + 3) = false)
    (hRframes : names.length + 4 < R.frames) (hRlocals : 2 * g.monitorRoom + ((Value.ref a :: rest).map fun v => v.category).sum + (13 * (names.length + 2) + 42) ≤ R.locals) (hlocks : meth.locks = false) :
    ∃ U : State, Steps p.tables e below (W0.setTop g) U ∧ U.status = .running ∧ Ended U below (.threw a) ∧ s.WarmedH U.vm ∧ s.sameButNew ({ U with vm := s.vm } : State) locs cells slots ∧
      ∃ ce, U.heap[a]? = some ce ∧ ce.vm = .none ∧ s.vm.findClass cls = some ce.cls := by
  have howns : e.platform.frameOwnsMonitors = true := by rw [X.admits.platform]
  have hfin : e.platform.finalization = false := by rw [X.admits.platform]
  have hpl : e.platform.magicAccessors = ({} : Platform).magicAccessors := by rw [X.admits.platform]
  have hm : ∀ {z}, z ∈ q_ownN own ic cls Y ix rx names → z.holds args s none s [] = true := fun hx => h _ hx
  obtain ⟨T, Z0, L, -, YY⟩ := ThrowableC.of_atoms (args := args) howns hfin hpl (fun x hx => h x (by simp [q_ownN, hx]))
  obtain ⟨Z, M, LZ, LM, hnZ⟩ := Init0T.ofS_atoms (args := args) hpl L YY (fun x hx => h x (by simp [q_ownN, hx]))
  obtain ⟨P1, L1, hP1m, hs1⟩ := PassC.ofS_atoms (args := args) (s := s) hpl (X := cls) (Y := Y) (Bundle.fit_spec hcls).1 (Bundle.fit_spec hY).2 x0 x1 x2 x5 (fun x hx => h x (by simp [q_ownN, hx]))
  obtain ⟨P2, Ps, hlen, L2, hL, hP2m, hlink2, hlink⟩ := Bundle.chainS (args := args) hpl hnZ names Y hY hnames (fun x hx => h x (by simp [q_ownN, hx]))
  have hsup1 : P1.sup = P2.m := Option.some.inj (hs1.symm.trans hP2m)
  have hfound : s.vm.findClass cls = some P1.m.cls := findClass_of_methodNamed hP1m
  cases Option.some.inj (hfoundX.symm.trans hfound)
  obtain ⟨c1, kX', hc1, hk, hord, -, -, hn6⟩ := Cond.instantiable_spec (hm (z := .instantiable cls 6) (by simp [q_ownN]))
  cases Option.some.inj (hc1.symm.trans hfound)
  cases Option.some.inj (hkX.symm.trans hk)
  have hsel0 : selectMethod e.platform s.vm P1.m.cls T.fill0 = .method T.fill0 := by
    obtain ⟨c2, r2, m2, q1, q2, q3, q4, -⟩ := Cond.selects_spec (hm (z := .selects cls Bundle.tFill0 Bundle.tFill0) (by simp [q_ownN]))
    cases Option.some.inj (q1.symm.trans hfound)
    cases Option.some.inj (q2.symm.trans (State.methodFound?_of_named YY.fill0 (by decide)))
    cases Option.some.inj (q3.symm.trans YY.fill0)
    rw [Launch.admits_selectMethod X.admits]; exact q4
  have hselF : selectMethod e.platform s.vm P1.m.cls T.fill = .method T.fill := by
    obtain ⟨c2, r2, m2, q1, q2, q3, q4, -⟩ := Cond.selects_spec (hm (z := .selects cls Bundle.tFill Bundle.tFill) (by simp [q_ownN]))
    cases Option.some.inj (q1.symm.trans hfound)
    cases Option.some.inj (q2.symm.trans (State.methodFound?_of_named YY.fill (by decide)))
    cases Option.some.inj (q3.symm.trans YY.fill)
    rw [Launch.admits_selectMethod X.admits]; exact q4
  obtain ⟨cellS0, hcS0, hiss⟩ := YY.statics
  obtain ⟨u0, hu0⟩ := Cond.staticRefV YY.unassigned L.unassignedStatic L.statics hcS0 hiss (hm (z := .isRef (.static Bundle.tN "UNASSIGNED_STACK" Bundle.steD)) (by simp [q_ownN]))
  obtain ⟨sen, hsen⟩ := Cond.staticRefV YY.sentinel L.sentinelStatic L.statics hcS0 hiss (hm (z := .isRef (.static Bundle.tN "SUPPRESSED_SENTINEL" Bundle.listD)) (by simp [q_ownN]))
  obtain ⟨ci198, i198, fB, hk198, hg198, ha198, hsB, -, hnB, htB, hffB⟩ := Cond.ownField (t := .object "java/lang/Object") YY.found L.cls (by decide +kernel) (hm (z := .fieldLink Bundle.tN 198 Bundle.tN "backtrace" "Ljava/lang/Object;") (by simp [q_ownN])) (hm (z := .lays Bundle.tN Bundle.tN "backtrace" "Ljava/lang/Object;") (by simp [q_ownN])) e.platform hpl
  obtain ⟨cellS, hcS', heS, -, hkeep⟩ := X.same.2.2.2.2.2 T.aS cellS0 hcS0
  have hcellS : W0.heap[T.aS]? = some cellS := hcS'
  have hout' : ∀ i, (⟨T.aS, i⟩ : Loc) ∉ locs := fun i hmem => by
    have := hlocs _ hmem cellS0 hcS0
    rw [hiss] at this; cases this
  have hknownS : cellS.vm ≠ .unknown := by
    rw [heS]; intro hu
    rw [show cellS0.vm = .unknown from hu] at hiss
    cases hiss
  have hneS : T.aS ≠ a := Nat.ne_of_lt (Nat.lt_of_lt_of_le (Array.getElem?_eq_some_iff.mp hcS0).1 hnew)
  obtain ⟨iM, hffM⟩ := YY.msg
  obtain ⟨tyC, dC, hdC, hdnC⟩ := Cond.laysAt hfound hk YY.cause (hm (z := .lays cls Bundle.tN "cause" "Ljava/lang/Throwable;") (by simp [q_ownN]))
  obtain ⟨tyS, dS, hdS, hdnS⟩ := Cond.laysAt hfound hk YY.stack (hm (z := .lays cls Bundle.tN "stackTrace" Bundle.steD) (by simp [q_ownN]))
  obtain ⟨tyP, dP, hdP, hdnP⟩ := Cond.laysAt hfound hk YY.supp (hm (z := .lays cls Bundle.tN "suppressedExceptions" Bundle.listD) (by simp [q_ownN]))
  obtain ⟨tyM, dM, hdM, hdnM⟩ := Cond.laysAt hfound hk hffM (hm (z := .lays cls Bundle.tN "detailMessage" "Ljava/lang/String;") (by simp [q_ownN]))
  obtain ⟨tyB, dB, hdB, hdnB⟩ := Cond.laysAt hfound hk hffB (hm (z := .lays cls Bundle.tN "backtrace" "Ljava/lang/Object;") (by simp [q_ownN]))
  have bC := Cond.laysApart hdB hdC hdnB hdnC (by rw [hnB, YY.causeName]; decide)
  have bS := Cond.laysApart hdB hdS hdnB hdnS (by rw [hnB, YY.stackName]; decide)
  have bP := Cond.laysApart hdB hdP hdnB hdnP (by rw [hnB, YY.suppName]; decide)
  have hskip : SkipFacts T e.platform s (fun u => u) u0 ((preparedCellV T.toThrowableT (freshCell P1.m.cls kX) a u0 sen).withEntry W0.cur) :=
    ⟨{ ci198 := ci198, i198 := i198, fBack := fB }, ⟨hk198, hg198, ha198, hsB⟩, by
      have := fresh_default (c := P1.m.cls) tyB
      rw [htB] at this
      simpa [preparedCellV, Cell.setSlot, Cell.withEntry, Array.getElem?_setIfInBounds, bC, bS, bP, bC.symm, bS.symm, bP.symm, defaultValue] using this, fun _ _ => rfl⟩
  obtain ⟨tm, methC, cdC, kC, vm₁, hnC, -, -, -, -, -, -, -, hW₁, st1⟩ := Steps.initColdS (tb := p.tables) (e := e) (below := below) (s := s) (U := W0) X.here hexec X.warmed hpl hown (t := Bundle.initS cls) rfl rfl (Bundle.fit_spec hcls).2
    (hm (z := .methodLink own ic (Bundle.initS cls)) (by simp [q_ownN])) (h (.instanceMethod (Bundle.initS cls)) (by simp [q_ownN, Bundle.passSAtoms])) (bytes := rx) (maxL := 2) (h (.code (Bundle.initS cls) rx 2 none) (by simp [q_ownN, Bundle.passSAtoms]))
    (f := g) hg (a := a) (msg := msg) (rest := .ref a :: rest) hstack hd6
  cases Option.some.inj (hnC.symm.trans hP1m)
  have X₁ := X.noted hW₁
  obtain ⟨vm₂, X₂, st2⟩ := X₁.ctorMessageOffV hexec (g := { g with stack := .ref a :: rest }) hg hsize T L Z LZ M LM (P1 :: P2 :: Ps)
    (fun P hP => by
      rcases List.mem_cons.mp hP with rfl | hP
      · exact L1
      · rcases List.mem_cons.mp hP with rfl | hP
        · exact L2
        · exact hL P hP) ⟨hsup1, hlink2, hlink⟩ (u0 := u0) (sen := sen) (self := a) hmsg (cell := freshCell P1.m.cls kX) (cellS := cellS)
    hcell (fun _ => by simp) (by simp) rfl rfl hsel0 hselF hcellS hneS hknownS (by rw [hkeep _ (hout' _)]; exact hu0) (by rw [hkeep _ (hout' _)]; exact hsen)
    (Takes.of_laid hk hord tyC (by rw [YY.causeType]; rfl)) (Takes.of_laid hk hord tyS (by rw [YY.stackType]; exact fits_refV_array _ u0)) (Takes.of_laid hk hord tyP (by rw [YY.suppType]; exact fits_refV_object _ sen))
    (Takes.of_laid hk hord tyM (by rw [YY.msgType]; exact fits_refV_object _ ⟨msg, hmsg⟩)) YY.objLocals hskip htr [] hd6
    (by simp only [List.length_cons, hlen]; omega) (by simp only [List.length_cons, hlen]; exact hRlocals)
  obtain ⟨hwalk, hrun, hended, hWU, hsame⟩ := X₂.athrowLeaves hexec (g := { g with stack := .ref a :: rest, pc := g.pc + 3 }) hg hlocked hentered hout (a := a) (rest := rest) rfl hd9
  have hlt : a < ((W0.setVm vm₁).setVm vm₂).heap.size := (Array.getElem?_eq_some_iff.mp hcell).1
  have hU := heapAt_setCell_self (s := (W0.setVm vm₁).setVm vm₂) (plainBareV T.toThrowableT (freshCell P1.m.cls kX) a u0 sen msg) hlt
  refine ⟨_, st1 _ (fun acts => ?_), hrun, hended, hWU, hsame.weaken (fun y hy hlt' => ?_) (Nat.le_refl _) (Nat.le_refl _), _, hU, rfl, hfound⟩
  · rw [doInvoke_state]
    exact st2 _ hwalk
  · rcases List.mem_append.mp hy with h1 | h1
    · exact h1
    · exfalso
      have hb : y.base = a := by
        simp only [List.mem_cons, List.not_mem_nil, or_false] at h1
        rcases h1 with rfl | rfl | rfl | rfl | rfl <;> rfl
      rw [hb] at hlt'
      exact Nat.not_lt.mpr hnew hlt'
end
section
variable {p : Program} {l : Launch} {e : Env} {R : Room} {s : State} {m : MethodId} {args : Array Value} {below : List Frame} {meth : Method} {c : Code} {H : Heap} {locs : List Loc} {cells slots : Nat} {ls : Array Slot} {rest : List Value} {Qc : Array Value → State → Outcome → State → Prop} {XC : String → State → State → Prop} {free : Nat → Prop}
set_option maxHeartbeats 4000000 in
theorem q_throwNS {cc : ByteArray} {pc : Nat} (hexec : p.tables.exec = Jvm.exec) (hb : c.code = cc) (hl : l.stackTraces = false) {own cls text YC : String} {names : List String} {rx : ByteArray} {ik is ic ix mc ms sa : Nat} {A : Nat → Prop}
    (x0 : decode rx 0 = .ok (.aload_n 0, 1)) (x1 : decode rx 1 = .ok (.aload_n 1, 1)) (x2 : decode rx 2 = .ok (.invokespecial ix, 3)) (x5 : decode rx 5 = .ok (.return_, 1)) (hYf : Bundle.fit YC = true)
    (hown : s.vm.findClass own = some m.cls) (hcls : Bundle.fit cls = true) (hnames : ∀ n ∈ names, Bundle.fit n = true)
    (hk : (Cond.classLink own ik cls).before args s = true) (hini : (Cond.initialized cls).before args s = true) (hstr : vk_R own is text sa s) (hat : ∀ w ∈ (q_ownN own ic cls YC ix rx names).filter vx_no, w.before args s = true)
    (hgood : ∀ w ∈ Cond.classLink own ik cls :: Cond.initialized cls :: (q_ownN own ic cls YC ix rx names).filter vx_no, vx_ot w = true)
    (hU : vx_Zq Bundle.tN "UNASSIGNED_STACK" Bundle.steD A s s.heap) (hN : vx_Zq Bundle.tN "SUPPRESSED_SENTINEL" Bundle.listD A s s.heap) (hS : va_S A s.heap H locs) (hsize : ls.size = c.maxLocals)
    (d0 : decode cc pc = .ok (.new ik, 3)) (d3 : decode cc (pc + 3) = .ok (.dup, 1)) (d4 : decode cc (pc + 4) = .ok (.ldc is, 2)) (d6 : decode cc (pc + 6) = .ok (.invokespecial ic, 3)) (d9 : decode cc (pc + 9) = .ok (.athrow, 1))
    (hout : ∀ x ∈ c.exceptionTable.toList, covers x (pc + 9) = false)
    (hRframes : names.length + 4 < R.frames) (hRlocals : (rest.map fun v => v.category).sum + (13 * (names.length + 2) + 43) ≤ R.locals) (hRcells : cells + 1 ≤ R.cells) (hRslots : slots + 6 ≤ R.slots) (hlocks : meth.locks = false)
    (hx : ∀ t : State, s.vm.Alike t.vm → H.size ≤ t.heap.size → (∀ q : Nat, q < H.size → t.heap[q]? = H[q]?) → XC cls s t)
    (hf : ∀ z ∈ locs, free z.base) (hc : cells + 1 ≤ mc) (hs : slots + 6 ≤ ms) :
    W p l e R s m args below meth c H locs cells slots (vx_MQ below Qc XC args s mc ms free) (F0 m pc ls rest) := by
  intro T hT X
  have htr : e.platform.stackTraces = false := (show e.platform.stackTraces = l.stackTraces by rw [X.admits.platform]).trans hl
  have Y := vx_rebase X (R' := { frames := R.frames, locals := R.locals, cells := 1, slots := 6 }) (Nat.le_refl _) (Nat.le_refl _) hRcells hRslots
  obtain ⟨s', hA⟩ : ∃ z, z = (T.setVm s.vm).setFrames (.invoking m args :: below) := ⟨_, rfl⟩
  rw [← hA] at Y
  have hvm : s'.vm = s.vm := by rw [hA]; rfl
  have hhp : s'.heap = H := by rw [hA]; exact hT
  have hW0 : s.WarmedH s'.vm := by rw [hvm]; exact State.WarmedH.refl s
  have hat' : ∀ w ∈ (q_ownN own ic cls YC ix rx names).filter vx_no, w.before args s' = true := fun w hw => vx_ot_at hW0 hvm.symm (hgood w (List.mem_cons_of_mem _ (List.mem_cons_of_mem _ hw))) (hat w hw)
  have hk' : (Cond.classLink own ik cls).before args s' = true := vx_ot_at hW0 hvm.symm (hgood _ List.mem_cons_self) hk
  have hini' : (Cond.initialized cls).before args s' = true := vx_ot_at hW0 hvm.symm (hgood _ (List.mem_cons_of_mem _ List.mem_cons_self)) hini
  have hU' : vx_Zq Bundle.tN "UNASSIGNED_STACK" Bundle.steD A s' s'.heap := by rw [hhp]; exact vx_Zq.moved hW0.alike (hU.kept hS.2.1)
  have hN' : vx_Zq Bundle.tN "SUPPRESSED_SENTINEL" Bundle.listD A s' s'.heap := by rw [hhp]; exact vx_Zq.moved hW0.alike (hN.kept hS.2.1)
  have h : ∀ w ∈ q_ownN own ic cls YC ix rx names, w.before args s' = true := vx_own hat' (vx_isRefq hU'.1) (vx_isRefq hN'.1) hU'.2.word hN'.2.word
  have hown' : s'.vm.findClass own = some m.cls := by rw [hvm]; exact hown
  have hins : (Cond.instantiable cls 6).before args s' = true := h _ (by simp [q_ownN])
  obtain ⟨vm₁, cX, kX, hfX, hkX, -, -, X₁, st1⟩ := Y.newCold hexec (own := own) (C := cls) (index := ik) (n := 6) hown' hk' hins hini'
    (g := F0 m pc ls rest) rfl (by rw [hb]; exact d0) (Nat.le_refl _) (Nat.le_refl _)
  generalize hT1 : (T.setVm vm₁).pushCell { cls := cX, slots := kX.instanceTypes.map defaultValue, vm := .none } = T1 at X₁ st1
  have hcat : (Value.ref T.heap.size).category = 1 := rfl
  have hcellA : T1.heap[T.heap.size]? = some (freshCell cX kX) := by rw [← hT1]; exact State.heap_pushCell_size _ _
  have d3' : decode c.code (pc + 3) = .ok (.dup, 1) := by rw [hb]; exact d3
  have d4' : decode c.code (pc + 4) = .ok (.ldc is, 2) := by rw [hb]; exact d4
  have hstr' : vk_R own is text sa s' := vk_R.warm hW0 hstr
  obtain ⟨U, hsteps, hrun, hend, hW, hsame, ce, hce, hOv, hOc⟩ := q_ctorN X₁ hexec htr x0 x1 x2 x5 (own := own) (cls := cls) (names := names) (ic := ic) hown' hcls hYf hnames h (fun x hx => nomatch hx) hfX hkX hcellA (by rw [hhp, hT]; exact Nat.le_refl _) (msg := .ref sa) rfl
    (g := { method := m, pc := pc + 6, locals := ls, stack := .ref sa :: .ref T.heap.size :: .ref T.heap.size :: rest, locked := none }) rfl hsize rfl rfl (rest := rest) rfl
    (by rw [hb]; exact d6) (by rw [hb]; exact d9) hout hRframes (by simp only [List.map_cons, List.sum_cons, hcat]; omega) hlocks
  obtain ⟨f1, f2⟩ := vx_frame hsame
  rw [hhp] at f1 f2
  have hWs : s.WarmedH U.vm := State.WarmedH.trans hW0 hW
  have hcl : s.vm.findClass cls = some ce.cls := by
    have h9 := hOc
    rw [hvm] at h9
    exact h9
  have hall : s.sameButNew ({ U with vm := s.vm } : State) locs mc ms := by
    subst hA
    obtain ⟨e1, e2⟩ := hsame
    rw [State.setFrames_setFrames] at e1
    have h2 : (T.setVm s.vm).sameButNew ({ U with vm := s.vm } : State) [] (0 + 1) (0 + 6) := ⟨e1, e2⟩
    have h3 := X.same.trans h2
    rw [List.append_nil] at h3
    exact h3.mono hc hs
  refine ⟨U, ?_, .threw T.heap.size, hrun, hend, Or.inr ⟨T.heap.size, rfl, cls, ce, locs, hx U hWs.alike f1 (fun q hq => f2 q hq (fun z hz => nomatch hz)), hce, hOv, hcl, hWs, hall, hf⟩⟩
  refine st1 _ ?_
  show Steps p.tables e below (T1.setTop { method := m, pc := pc + 3, locals := ls, stack := .ref T.heap.size :: rest, locked := none }) _
  jvm_step X₁.here [X₁.here.top, hexec, d3', Value.category]
  exact X₁.ldcString hexec (own := own) (text := text) (index := is) (a := sa) hown' hstr'.1 hstr'.2
    (g := { method := m, pc := pc + 4, locals := ls, stack := .ref T.heap.size :: .ref T.heap.size :: rest, locked := none }) rfl d4' _ hsteps
set_option maxHeartbeats 4000000 in
theorem q_throwNSW {cc : ByteArray} {pc : Nat} (hexec : p.tables.exec = Jvm.exec) (hb : c.code = cc) (hl : l.stackTraces = false) {own cls text YC : String} {names : List String} {rx : ByteArray} {ik is ic ix mc ms sa : Nat} {A : Nat → Prop}
    (x0 : decode rx 0 = .ok (.aload_n 0, 1)) (x1 : decode rx 1 = .ok (.aload_n 1, 1)) (x2 : decode rx 2 = .ok (.invokespecial ix, 3)) (x5 : decode rx 5 = .ok (.return_, 1)) (hYf : Bundle.fit YC = true)
    (hown : s.vm.findClass own = some m.cls) (hcls : Bundle.fit cls = true) (hnames : ∀ n ∈ names, Bundle.fit n = true)
    (hk : (Cond.classLink own ik cls).before args s = true) (hini : (Cond.initialized cls).before args s = true) (hstr : vk_R own is text sa s) (hat : ∀ w ∈ (q_ownN own ic cls YC ix rx names).filter vx_no, w.before args s = true)
    (hgood : ∀ w ∈ Cond.classLink own ik cls :: Cond.initialized cls :: (q_ownN own ic cls YC ix rx names).filter vx_no, vx_ot w = true)
    (hU : vx_Zq Bundle.tN "UNASSIGNED_STACK" Bundle.steD A s s.heap) (hN : vx_Zq Bundle.tN "SUPPRESSED_SENTINEL" Bundle.listD A s s.heap) (hS : va_S A s.heap H locs) (hsize : ls.size = c.maxLocals)
    (d0 : decode cc pc = .ok (.new ik, 3)) (d3 : decode cc (pc + 3) = .ok (.dup, 1)) (d4 : decode cc (pc + 4) = .ok (.ldc_w is, 3)) (d7 : decode cc (pc + 7) = .ok (.invokespecial ic, 3)) (d10 : decode cc (pc + 10) = .ok (.athrow, 1))
    (hout : ∀ x ∈ c.exceptionTable.toList, covers x (pc + 10) = false)
    (hRframes : names.length + 4 < R.frames) (hRlocals : (rest.map fun v => v.category).sum + (13 * (names.length + 2) + 43) ≤ R.locals) (hRcells : cells + 1 ≤ R.cells) (hRslots : slots + 6 ≤ R.slots) (hlocks : meth.locks = false)
    (hx : ∀ t : State, s.vm.Alike t.vm → H.size ≤ t.heap.size → (∀ q : Nat, q < H.size → t.heap[q]? = H[q]?) → XC cls s t)
    (hf : ∀ z ∈ locs, free z.base) (hc : cells + 1 ≤ mc) (hs : slots + 6 ≤ ms) :
    W p l e R s m args below meth c H locs cells slots (vx_MQ below Qc XC args s mc ms free) (F0 m pc ls rest) := by
  intro T hT X
  have htr : e.platform.stackTraces = false := (show e.platform.stackTraces = l.stackTraces by rw [X.admits.platform]).trans hl
  have Y := vx_rebase X (R' := { frames := R.frames, locals := R.locals, cells := 1, slots := 6 }) (Nat.le_refl _) (Nat.le_refl _) hRcells hRslots
  obtain ⟨s', hA⟩ : ∃ z, z = (T.setVm s.vm).setFrames (.invoking m args :: below) := ⟨_, rfl⟩
  rw [← hA] at Y
  have hvm : s'.vm = s.vm := by rw [hA]; rfl
  have hhp : s'.heap = H := by rw [hA]; exact hT
  have hW0 : s.WarmedH s'.vm := by rw [hvm]; exact State.WarmedH.refl s
  have hat' : ∀ w ∈ (q_ownN own ic cls YC ix rx names).filter vx_no, w.before args s' = true := fun w hw => vx_ot_at hW0 hvm.symm (hgood w (List.mem_cons_of_mem _ (List.mem_cons_of_mem _ hw))) (hat w hw)
  have hk' : (Cond.classLink own ik cls).before args s' = true := vx_ot_at hW0 hvm.symm (hgood _ List.mem_cons_self) hk
  have hini' : (Cond.initialized cls).before args s' = true := vx_ot_at hW0 hvm.symm (hgood _ (List.mem_cons_of_mem _ List.mem_cons_self)) hini
  have hU' : vx_Zq Bundle.tN "UNASSIGNED_STACK" Bundle.steD A s' s'.heap := by rw [hhp]; exact vx_Zq.moved hW0.alike (hU.kept hS.2.1)
  have hN' : vx_Zq Bundle.tN "SUPPRESSED_SENTINEL" Bundle.listD A s' s'.heap := by rw [hhp]; exact vx_Zq.moved hW0.alike (hN.kept hS.2.1)
  have h : ∀ w ∈ q_ownN own ic cls YC ix rx names, w.before args s' = true := vx_own hat' (vx_isRefq hU'.1) (vx_isRefq hN'.1) hU'.2.word hN'.2.word
  have hown' : s'.vm.findClass own = some m.cls := by rw [hvm]; exact hown
  have hins : (Cond.instantiable cls 6).before args s' = true := h _ (by simp [q_ownN])
  obtain ⟨vm₁, cX, kX, hfX, hkX, -, -, X₁, st1⟩ := Y.newCold hexec (own := own) (C := cls) (index := ik) (n := 6) hown' hk' hins hini'
    (g := F0 m pc ls rest) rfl (by rw [hb]; exact d0) (Nat.le_refl _) (Nat.le_refl _)
  generalize hT1 : (T.setVm vm₁).pushCell { cls := cX, slots := kX.instanceTypes.map defaultValue, vm := .none } = T1 at X₁ st1
  have hcat : (Value.ref T.heap.size).category = 1 := rfl
  have hcellA : T1.heap[T.heap.size]? = some (freshCell cX kX) := by rw [← hT1]; exact State.heap_pushCell_size _ _
  have d3' : decode c.code (pc + 3) = .ok (.dup, 1) := by rw [hb]; exact d3
  have d4' : decode c.code (pc + 4) = .ok (.ldc_w is, 3) := by rw [hb]; exact d4
  have hstr' : vk_R own is text sa s' := vk_R.warm hW0 hstr
  obtain ⟨U, hsteps, hrun, hend, hW, hsame, ce, hce, hOv, hOc⟩ := q_ctorN X₁ hexec htr x0 x1 x2 x5 (own := own) (cls := cls) (names := names) (ic := ic) hown' hcls hYf hnames h (fun x hx => nomatch hx) hfX hkX hcellA (by rw [hhp, hT]; exact Nat.le_refl _) (msg := .ref sa) rfl
    (g := { method := m, pc := pc + 7, locals := ls, stack := .ref sa :: .ref T.heap.size :: .ref T.heap.size :: rest, locked := none }) rfl hsize rfl rfl (rest := rest) rfl
    (by rw [hb]; exact d7) (by rw [hb]; exact d10) hout hRframes (by simp only [List.map_cons, List.sum_cons, hcat]; omega) hlocks
  obtain ⟨f1, f2⟩ := vx_frame hsame
  rw [hhp] at f1 f2
  have hWs : s.WarmedH U.vm := State.WarmedH.trans hW0 hW
  have hcl : s.vm.findClass cls = some ce.cls := by
    have h9 := hOc
    rw [hvm] at h9
    exact h9
  have hall : s.sameButNew ({ U with vm := s.vm } : State) locs mc ms := by
    subst hA
    obtain ⟨e1, e2⟩ := hsame
    rw [State.setFrames_setFrames] at e1
    have h2 : (T.setVm s.vm).sameButNew ({ U with vm := s.vm } : State) [] (0 + 1) (0 + 6) := ⟨e1, e2⟩
    have h3 := X.same.trans h2
    rw [List.append_nil] at h3
    exact h3.mono hc hs
  refine ⟨U, ?_, .threw T.heap.size, hrun, hend, Or.inr ⟨T.heap.size, rfl, cls, ce, locs, hx U hWs.alike f1 (fun q hq => f2 q hq (fun z hz => nomatch hz)), hce, hOv, hcl, hWs, hall, hf⟩⟩
  refine st1 _ ?_
  show Steps p.tables e below (T1.setTop { method := m, pc := pc + 3, locals := ls, stack := .ref T.heap.size :: rest, locked := none }) _
  jvm_step X₁.here [X₁.here.top, hexec, d3', Value.category]
  exact X₁.ldcStringW hexec (own := own) (text := text) (index := is) (a := sa) hown' hstr'.1 hstr'.2
    (g := { method := m, pc := pc + 4, locals := ls, stack := .ref T.heap.size :: .ref T.heap.size :: rest, locked := none }) rfl d4' _ hsteps
end
end
section
section
variable {p : Program} {l : Launch} {e : Env} {R : Room} {s : State} {m : MethodId} {args : Array Value} {below : List Frame} {meth : Method} {c : Code} {H : Heap} {locs : List Loc} {cells slots : Nat} {Q : State → Prop}
variable {mc ms : Nat} {free : Addr → Prop} {A0 A1 : Nat → Prop} {H0 : Heap} {a : Array Value} {pc : Nat} {ls : Array Slot} {st0 rest : List Value}
theorem q_xcallr {S SX : Type} {post : S → Prop} {px : SX → Prop} {B : S → Nat → State → Prop} {BX : String → SX → State → Prop} {AX : Nat → Prop} (hr : vx_Run p l e R s m args below meth c H locs cells slots mc ms (F0 m pc ls st0) rest (va_Qr post B A1 a) (vx_X px BX AX) free) (hS : va_S A0 H0 H locs) (hA : ∀ q, q < H.size → A1 q → A0 q) (hf : ∀ q, free q → A0 q) (hAX : ∀ q, q < H.size → AX q → A0 q)
    (kx : ∀ (E : String) (ce : Cell) (q9 : Addr) (u : SX) (t : State) (H1 : Heap) (locs1 : List Loc), t.heap = H1 → s.vm.Alike t.vm → px u → BX E u t → H.size ≤ H1.size → (∀ q : Nat, q < H.size → ¬ AX q → H1[q]? = H[q]?) → va_S A0 H0 H1 locs1 → H1[q9]? = some ce → ce.vm = .none → s.vm.findClass E = some ce.cls → vx_W p l e R s m args below meth c H1 locs1 (cells + mc) (slots + ms) Q (F0 m pc ls rest) q9)
    (kk : ∀ (u : S) (b : Nat) (t : State) (H1 : Heap) (locs1 : List Loc), t.heap = H1 → s.vm.Alike t.vm → post u → B u b t → H.size ≤ H1.size → (∀ q : Nat, q < H.size → ¬ A1 q → H1[q]? = H[q]?) → va_S A0 H0 H1 locs1 → W p l e R s m args below meth c H1 locs1 (cells + mc) (slots + ms) Q (F0 m (pc + 3) ls (.ref b :: rest))) : W p l e R s m args below meth c H locs cells slots Q (F0 m pc ls st0) := by
  intro T hT X
  rcases hr T hT X with ⟨v, st₀, t, T', L, h0, X', hL, e1, e2, ⟨⟨u, b, hv, hp, hb⟩, hF⟩, st⟩ | ⟨q, st₀, t, T', L, E, ce, h0, X', hL, e1, e2, ⟨u, hp, hb, hF⟩, hce, hcv, hcl, st⟩
  · cases hv
    obtain ⟨k1, k2, k3⟩ := vx_keep h0 e1 hS hA hf hL hF
    obtain ⟨t2, a1, b1⟩ := kk u b t T'.heap (locs ++ L) e1.symm (by rw [← e2]; exact X'.warmed.alike) hp hb k1 k2 k3 T' rfl X'
    exact ⟨t2, st t2 a1, b1⟩
  · obtain ⟨k1, k2, k3⟩ := vx_keep h0 e1 hS hAX hf hL hF
    obtain ⟨t2, a1, b1⟩ := kx E ce q u t T'.heap (locs ++ L) e1.symm (by rw [← e2]; exact X'.warmed.alike) hp hb k1 k2 k3 (by rw [e1]; exact hce) hcv hcl T' rfl X'
    exact ⟨t2, st.trans a1, b1⟩
end
def qbd3 {α γ δ β : Type} (o : Option (α × γ × δ)) (k : α → γ → δ → Option β) : Option β := match o with | none => none | some (x, y, z) => k x y z
theorem qbd3_s {α γ δ β : Type} {o : Option (α × γ × δ)} {k : α → γ → δ → Option β} {r : β} (h : qbd3 o k = some r) : ∃ x y z, o = some (x, y, z) ∧ k x y z = some r := by
  match o, h with
  | none, h => cases h
  | some (x, y, z), h => exact ⟨x, y, z, rfl, h⟩
theorem qso3 {α β γ : Type} {a r : α} {b t : β} {c u : γ} (h : some (a, b, c) = some (r, t, u)) : a = r ∧ b = t ∧ c = u := by cases h; exact ⟨rfl, rfl, rfl⟩
/-- the exceptions that the class throws, by their numbers -/
def qexn : Nat → String
  | 1 => "java/lang/IllegalArgumentException"
  | 2 => "java/lang/UnsupportedOperationException"
  | 3 => "java/lang/IndexOutOfBoundsException"
  | 4 => "java/util/NoSuchElementException"
  | 5 => "java/lang/IllegalStateException"
  | _ => "java/lang/ArithmeticException"
def qxw (own : String) (ic : Nat) (E : String) : List Cond := vx_atS own ic E ["java/lang/RuntimeException", "java/lang/Exception"]
def qxwN (own : String) (ic : Nat) (E : String) : List Cond := (q_ownN own ic E "java/lang/RuntimeException" 13 prog_36_method_4_code ["java/lang/Exception"]).filter vx_no
abbrev qXC (D : va_G) (G : Nat → ClassId) (ad : Nat → Nat) (st : State) (code : Nat) (w1 : qMem) : String → State → State → Prop := vx_X (S := Unit) (fun _ => code ≠ 0) (fun E _ t => E = qexn code ∧ va_P D vwCl (qcells G ad w1) t.heap) (qAdr ad st.heap.size)
abbrev qxQI (D : va_G) (G : Nat → ClassId) (ad : Nat → Nat) (s : State) (code : Nat) (r : Int32) (w1 : qMem) : Array Value → State → Outcome → State → Prop := va_Qi (S := Unit) (fun r1 _ => code = 0 ∧ r1 = r) (fun _ t => va_P D vwCl (qcells G ad w1) t.heap) (qAdr ad s.heap.size)
abbrev qxQV (D : va_G) (G : Nat → ClassId) (ad : Nat → Nat) (s : State) (code : Nat) (w1 : qMem) : Array Value → State → Outcome → State → Prop := va_Qv (S := Unit) (fun _ => code = 0) (fun _ t => va_P D vwCl (qcells G ad w1) t.heap) (qAdr ad s.heap.size)
abbrev qxQR (D : va_G) (G : Nat → ClassId) (ad : Nat → Nat) (s : State) (code : Nat) (x : Nat) (w1 : qMem) : Array Value → State → Outcome → State → Prop := va_Qr (S := Unit) (fun _ => code = 0) (fun _ a t => a = ad x ∧ va_P D vwCl (qcells G ad w1) t.heap) (qAdr ad s.heap.size)
abbrev qxQD (D : va_G) (G : Nat → ClassId) (ad : Nat → Nat) (s : State) (code : Nat) (r : UInt64) (w1 : qMem) : Array Value → State → Outcome → State → Prop := va_Qd (S := Unit) (fun r1 _ => code = 0 ∧ r1 = r) (fun _ t => va_P D vwCl (qcells G ad w1) t.heap) (qAdr ad s.heap.size)
abbrev qxQF (D : va_G) (G : Nat → ClassId) (ad : Nat → Nat) (s : State) (code : Nat) (r : UInt32) (w1 : qMem) : Array Value → State → Outcome → State → Prop := va_Qf (S := Unit) (fun r1 _ => code = 0 ∧ r1 = r) (fun _ t => va_P D vwCl (qcells G ad w1) t.heap) (qAdr ad s.heap.size)
def qCX (l : Launch) (D : va_G) (G : Nat → ClassId) (ad : Nat → Nat) (y : MethodName) (cc : ByteArray) (maxL : Nat) (ret : Option FieldType) (d mc ms : Nat) (av : List Value) (w : qMem) (Qc : State → Array Value → State → Outcome → State → Prop) (code : Nat) (w1 : qMem) : Prop :=
  ∀ st : State, vx_Met l y (Cond.code y cc maxL ret :: lw_gd) (qrm d mc ms) (va_Pc av (qpre D G ad w st.heap.size)) (Qc st) (qXC D G ad st code w1) mc ms (qAdr ad st.heap.size)
theorem qP_kept {D : va_G} {G : Nat → ClassId} {ad : Nat → Nat} {w : qMem} {H H1 : Heap} (h : va_P D vwCl (qcells G ad w) H) (hq : ∀ q : Nat, q < H.size → H1[q]? = H[q]?) : va_P D vwCl (qcells G ad w) H1 := fun k q hk => (h k q hk).kept (hq _ (h k q hk).lt)
theorem qx_start {l : Launch} {D : va_G} {G : Nat → ClassId} {ad : Nat → Nat} {y : MethodName} {cc : ByteArray} {maxL : Nat} {ret : Option FieldType} {d mc ms : Nat} {av : List Value} {w w1 : qMem} {code : Nat} {Qc : State → Array Value → State → Outcome → State → Prop} (own : String) (hown : y.cls = own) (hy : plainName y.cls = true) (hJ : qInj ad) (hQ : ∀ s st : State, s.heap.size = st.heap.size → Qc s = Qc st) (hlen : (lg_sl av).length ≤ maxL)
    (body : ∀ (p : Program) (e : Env) (s : State) (m : MethodId) (args : Array Value) (below : List Frame) (meth : Method) (c : Code) (ls : Array Slot), qCx p c cc maxL s m args meth own D G ad → meth.sig.returnType = ret → (∀ x ∈ c.exceptionTable.toList, False) → qRp D G ad s w s.heap [] → lv_has ls maxL (lv_args 0 av) → W p l e (qrm d mc ms) s m args below meth c s.heap [] 0 0 (vx_MQ below (Qc s) (qXC D G ad s code w1) args s mc ms (qAdr ad s.heap.size)) (F0 m 0 ls [])) :
    qCX l D G ad y cc maxL ret d mc ms av w Qc code w1 := by
  intro st
  refine vx_ofW (cc := cc) (maxL := maxL) (ret := ret) hy rfl ?_
  intro p e s m args below meth c s₁ B hml ht hv
  obtain ⟨rfl, hsz, hP, hK, hX⟩ := hv
  have hts := atoms_spec (ws := Cond.code y cc maxL ret :: lw_gd) B.pre
  have hC : qCx p c cc maxL s m av.toArray meth own D G ad := ⟨B.exec, B.bytes, hml, by rw [← hown]; exact findClass_of_methodNamed B.named, fun w hw => hts w (List.mem_cons_of_mem _ hw), B.notSynchronized, hK, hJ, by rw [hsz]; exact hX⟩
  have hl := lv_entry av (n := maxL) hlen
  rw [lg_entry_eq]
  have := body p e s m av.toArray below meth c _ hC B.returns ht ⟨hP, va_S.rf⟩ hl
  rw [hQ s st hsz] at this
  simp only [qXC, hsz] at this ⊢
  exact this
section
variable {p : Program} {l : Launch} {e : Env} {R : Room} {s : State} {m : MethodId} {args : Array Value} {below : List Frame} {meth : Method} {c0 : Code} {H : Heap} {locs : List Loc} {cells slots : Nat} {Q : State → Prop} {pc nL : Nat} {ls : Array Slot} {rest : List Value} {cc : ByteArray} {own : String} {D : va_G} {G : Nat → ClassId} {ad : Nat → Nat} {w w1 : qMem} {code mc ms : Nat}
theorem q_throw (hC : qCx p c0 cc nL s m args meth own D G ad) (hR : qRp D G ad s w H locs) (hl : l.stackTraces = false) (ht : ∀ x ∈ c0.exceptionTable.toList, False) {E text : String} {ik is ic i : Nat} {Qc : Array Value → State → Outcome → State → Prop} (hE : qexn code = E) (h0 : code ≠ 0) (hw : w = w1) (hcls : Bundle.fit E = true) (hk : Cond.classLink own ik E ∈ lw_gd) (hini : Cond.initialized E ∈ lw_gd) (hstr : (own, is, text, i) ∈ qstr)
    (hat : ∀ w ∈ qxw own ic E, w ∈ lw_gd ∨ w ∈ lw_ct) (hsize : ls.size = nL)
    (d0 : decode cc pc = .ok (.new ik, 3)) (d3 : decode cc (pc + 3) = .ok (.dup, 1)) (d4 : decode cc (pc + 4) = .ok (.ldc is, 2)) (d6 : decode cc (pc + 6) = .ok (.invokespecial ic, 3)) (d9 : decode cc (pc + 9) = .ok (.athrow, 1))
    (hRframes : 5 < R.frames) (hRlocals : (rest.map fun v => v.category).sum + 82 ≤ R.locals) (hRcells : cells + 1 ≤ R.cells) (hRslots : slots + 6 ≤ R.slots) (hc : cells + 1 ≤ mc) (hs : slots + 6 ≤ ms) :
    W p l e R s m args below meth c0 H locs cells slots (vx_MQ below Qc (qXC D G ad s code w1) args s mc ms (qAdr ad s.heap.size)) (F0 m pc ls rest) := by
  obtain ⟨hx1, hb, hml, hown, hts, hlo, hK, hJ, hX⟩ := hC
  subst hw
  have hgd : ∀ w ∈ lw_gd, vx_ot w = true := fun w hw => by simp [vx_ot, (List.mem_filter.mp hw).2]
  have hct : ∀ w ∈ lw_ct, vx_ot w = true := fun w hw => by simp [vx_ot, q_kp_tab (List.mem_filter.mp hw).2]
  refine vx_throwS (names := ["java/lang/RuntimeException", "java/lang/Exception"]) (A := qAdr ad s.heap.size) hx1 hb hl hown hcls (by decide) (hts _ hk) (hts _ hini) (hX.2.1 _ hstr) (fun w hw => (hat w hw).elim (hts w) (fun h => va_Nw.use (q_kp_tab (List.mem_filter.mp h).2) (hX.2.2.2.2 w h))) (fun w hw => ?_) hX.2.2.1 hX.2.2.2.1 hR.2 (hsize.trans hml.symm) d0 d3 d4 d6 d9 (fun x hx => (ht x hx).elim) hRframes hRlocals hRcells hRslots hlo (fun t hvm hz hq => ⟨(), h0, ⟨hE.symm, qP_kept hR.1 hq⟩, ⟨Nat.le_trans hR.2.1 hz, fun q h1 h2 => (hq q (Nat.lt_of_lt_of_le h1 hR.2.1)).trans (hR.2.2.1 q h1 h2)⟩⟩) hR.2.2.2 hc hs
  rcases List.mem_cons.mp hw with rfl | hw
  · exact hgd _ hk
  · rcases List.mem_cons.mp hw with rfl | hw
    · exact hgd _ hini
    · exact (hat w hw).elim (hgd w) (hct w)
theorem q_throwW (hC : qCx p c0 cc nL s m args meth own D G ad) (hR : qRp D G ad s w H locs) (hl : l.stackTraces = false) (ht : ∀ x ∈ c0.exceptionTable.toList, False) {E text : String} {ik is ic i : Nat} {Qc : Array Value → State → Outcome → State → Prop} (hE : qexn code = E) (h0 : code ≠ 0) (hw : w = w1) (hcls : Bundle.fit E = true) (hk : Cond.classLink own ik E ∈ lw_gd) (hini : Cond.initialized E ∈ lw_gd) (hstr : (own, is, text, i) ∈ qstr)
    (hat : ∀ w ∈ qxw own ic E, w ∈ lw_gd ∨ w ∈ lw_ct) (hsize : ls.size = nL)
    (d0 : decode cc pc = .ok (.new ik, 3)) (d3 : decode cc (pc + 3) = .ok (.dup, 1)) (d4 : decode cc (pc + 4) = .ok (.ldc_w is, 3)) (d6 : decode cc (pc + 7) = .ok (.invokespecial ic, 3)) (d9 : decode cc (pc + 10) = .ok (.athrow, 1))
    (hRframes : 5 < R.frames) (hRlocals : (rest.map fun v => v.category).sum + 82 ≤ R.locals) (hRcells : cells + 1 ≤ R.cells) (hRslots : slots + 6 ≤ R.slots) (hc : cells + 1 ≤ mc) (hs : slots + 6 ≤ ms) :
    W p l e R s m args below meth c0 H locs cells slots (vx_MQ below Qc (qXC D G ad s code w1) args s mc ms (qAdr ad s.heap.size)) (F0 m pc ls rest) := by
  obtain ⟨hx1, hb, hml, hown, hts, hlo, hK, hJ, hX⟩ := hC
  subst hw
  have hgd : ∀ w ∈ lw_gd, vx_ot w = true := fun w hw => by simp [vx_ot, (List.mem_filter.mp hw).2]
  have hct : ∀ w ∈ lw_ct, vx_ot w = true := fun w hw => by simp [vx_ot, q_kp_tab (List.mem_filter.mp hw).2]
  refine vx_throwSW (names := ["java/lang/RuntimeException", "java/lang/Exception"]) (A := qAdr ad s.heap.size) hx1 hb hl hown hcls (by decide) (hts _ hk) (hts _ hini) (hX.2.1 _ hstr) (fun w hw => (hat w hw).elim (hts w) (fun h => va_Nw.use (q_kp_tab (List.mem_filter.mp h).2) (hX.2.2.2.2 w h))) (fun w hw => ?_) hX.2.2.1 hX.2.2.2.1 hR.2 (hsize.trans hml.symm) d0 d3 d4 d6 d9 (fun x hx => (ht x hx).elim) hRframes hRlocals hRcells hRslots hlo (fun t hvm hz hq => ⟨(), h0, ⟨hE.symm, qP_kept hR.1 hq⟩, ⟨Nat.le_trans hR.2.1 hz, fun q h1 h2 => (hq q (Nat.lt_of_lt_of_le h1 hR.2.1)).trans (hR.2.2.1 q h1 h2)⟩⟩) hR.2.2.2 hc hs
  rcases List.mem_cons.mp hw with rfl | hw
  · exact hgd _ hk
  · rcases List.mem_cons.mp hw with rfl | hw
    · exact hgd _ hini
    · exact (hat w hw).elim (hgd w) (hct w)
theorem q_throwN (hC : qCx p c0 cc nL s m args meth own D G ad) (hR : qRp D G ad s w H locs) (hl : l.stackTraces = false) (ht : ∀ x ∈ c0.exceptionTable.toList, False) {E text : String} {ik is ic i : Nat} {Qc : Array Value → State → Outcome → State → Prop} (hE : qexn code = E) (h0 : code ≠ 0) (hw : w = w1) (hcls : Bundle.fit E = true) (hk : Cond.classLink own ik E ∈ lw_gd) (hini : Cond.initialized E ∈ lw_gd) (hstr : (own, is, text, i) ∈ qstr)
    (hat : ∀ w ∈ qxwN own ic E, w ∈ lw_gd ∨ w ∈ lw_ct) (hsize : ls.size = nL)
    (d0 : decode cc pc = .ok (.new ik, 3)) (d3 : decode cc (pc + 3) = .ok (.dup, 1)) (d4 : decode cc (pc + 4) = .ok (.ldc is, 2)) (d6 : decode cc (pc + 6) = .ok (.invokespecial ic, 3)) (d9 : decode cc (pc + 9) = .ok (.athrow, 1))
    (hRframes : 5 < R.frames) (hRlocals : (rest.map fun v => v.category).sum + 82 ≤ R.locals) (hRcells : cells + 1 ≤ R.cells) (hRslots : slots + 6 ≤ R.slots) (hc : cells + 1 ≤ mc) (hs : slots + 6 ≤ ms) :
    W p l e R s m args below meth c0 H locs cells slots (vx_MQ below Qc (qXC D G ad s code w1) args s mc ms (qAdr ad s.heap.size)) (F0 m pc ls rest) := by
  obtain ⟨hx1, hb, hml, hown, hts, hlo, hK, hJ, hX⟩ := hC
  subst hw
  have hgd : ∀ w ∈ lw_gd, vx_ot w = true := fun w hw => by simp [vx_ot, (List.mem_filter.mp hw).2]
  have hct : ∀ w ∈ lw_ct, vx_ot w = true := fun w hw => by simp [vx_ot, q_kp_tab (List.mem_filter.mp hw).2]
  refine q_throwNS (names := ["java/lang/Exception"]) (A := qAdr ad s.heap.size) hx1 hb hl (YC := "java/lang/RuntimeException") (ix := 13) (rx := prog_36_method_4_code) (by decide +kernel) (by decide +kernel) (by decide +kernel) (by decide +kernel) (by decide) hown hcls (by decide) (hts _ hk) (hts _ hini) (hX.2.1 _ hstr) (fun w hw => (hat w hw).elim (hts w) (fun h => va_Nw.use (q_kp_tab (List.mem_filter.mp h).2) (hX.2.2.2.2 w h))) (fun w hw => ?_) hX.2.2.1 hX.2.2.2.1 hR.2 (hsize.trans hml.symm) d0 d3 d4 d6 d9 (fun x hx => (ht x hx).elim) hRframes hRlocals hRcells hRslots hlo (fun t hvm hz hq => ⟨(), h0, ⟨hE.symm, qP_kept hR.1 hq⟩, ⟨Nat.le_trans hR.2.1 hz, fun q h1 h2 => (hq q (Nat.lt_of_lt_of_le h1 hR.2.1)).trans (hR.2.2.1 q h1 h2)⟩⟩) hR.2.2.2 hc hs
  rcases List.mem_cons.mp hw with rfl | hw
  · exact hgd _ hk
  · rcases List.mem_cons.mp hw with rfl | hw
    · exact hgd _ hini
    · exact (hat w hw).elim (hgd w) (hct w)
theorem q_throwNW (hC : qCx p c0 cc nL s m args meth own D G ad) (hR : qRp D G ad s w H locs) (hl : l.stackTraces = false) (ht : ∀ x ∈ c0.exceptionTable.toList, False) {E text : String} {ik is ic i : Nat} {Qc : Array Value → State → Outcome → State → Prop} (hE : qexn code = E) (h0 : code ≠ 0) (hw : w = w1) (hcls : Bundle.fit E = true) (hk : Cond.classLink own ik E ∈ lw_gd) (hini : Cond.initialized E ∈ lw_gd) (hstr : (own, is, text, i) ∈ qstr)
    (hat : ∀ w ∈ qxwN own ic E, w ∈ lw_gd ∨ w ∈ lw_ct) (hsize : ls.size = nL)
    (d0 : decode cc pc = .ok (.new ik, 3)) (d3 : decode cc (pc + 3) = .ok (.dup, 1)) (d4 : decode cc (pc + 4) = .ok (.ldc_w is, 3)) (d6 : decode cc (pc + 7) = .ok (.invokespecial ic, 3)) (d9 : decode cc (pc + 10) = .ok (.athrow, 1))
    (hRframes : 5 < R.frames) (hRlocals : (rest.map fun v => v.category).sum + 82 ≤ R.locals) (hRcells : cells + 1 ≤ R.cells) (hRslots : slots + 6 ≤ R.slots) (hc : cells + 1 ≤ mc) (hs : slots + 6 ≤ ms) :
    W p l e R s m args below meth c0 H locs cells slots (vx_MQ below Qc (qXC D G ad s code w1) args s mc ms (qAdr ad s.heap.size)) (F0 m pc ls rest) := by
  obtain ⟨hx1, hb, hml, hown, hts, hlo, hK, hJ, hX⟩ := hC
  subst hw
  have hgd : ∀ w ∈ lw_gd, vx_ot w = true := fun w hw => by simp [vx_ot, (List.mem_filter.mp hw).2]
  have hct : ∀ w ∈ lw_ct, vx_ot w = true := fun w hw => by simp [vx_ot, q_kp_tab (List.mem_filter.mp hw).2]
  refine q_throwNSW (names := ["java/lang/Exception"]) (A := qAdr ad s.heap.size) hx1 hb hl (YC := "java/lang/RuntimeException") (ix := 13) (rx := prog_36_method_4_code) (by decide +kernel) (by decide +kernel) (by decide +kernel) (by decide +kernel) (by decide) hown hcls (by decide) (hts _ hk) (hts _ hini) (hX.2.1 _ hstr) (fun w hw => (hat w hw).elim (hts w) (fun h => va_Nw.use (q_kp_tab (List.mem_filter.mp h).2) (hX.2.2.2.2 w h))) (fun w hw => ?_) hX.2.2.1 hX.2.2.2.1 hR.2 (hsize.trans hml.symm) d0 d3 d4 d6 d9 (fun x hx => (ht x hx).elim) hRframes hRlocals hRcells hRslots hlo (fun t hvm hz hq => ⟨(), h0, ⟨hE.symm, qP_kept hR.1 hq⟩, ⟨Nat.le_trans hR.2.1 hz, fun q h1 h2 => (hq q (Nat.lt_of_lt_of_le h1 hR.2.1)).trans (hR.2.2.1 q h1 h2)⟩⟩) hR.2.2.2 hc hs
  rcases List.mem_cons.mp hw with rfl | hw
  · exact hgd _ hk
  · rcases List.mem_cons.mp hw with rfl | hw
    · exact hgd _ hini
    · exact (hat w hw).elim (hgd w) (hct w)
theorem qx_iret {v r : Int32} (hC : qCx p c0 cc nL s m args meth own D G ad) (hR : qRp D G ad s w H locs) {ty : FieldType} (hr : meth.sig.returnType = some ty) (hn : narrow ty (.int v) = .int v) (h0 : code = 0) (hv : v = r) (hw : w = w1) (hdg : decode cc pc = .ok (.ireturn, 1)) (hc : cells ≤ mc) (hs : slots ≤ ms) :
    W p l e R s m args below meth c0 H locs cells slots (vx_MQ below (qxQI D G ad s code r w1) (qXC D G ad s code w1) args s mc ms (qAdr ad s.heap.size)) (F0 m pc ls [.int v]) := by
  subst hv; subst hw
  exact vx_ret (W.widen hc hs (W.zret hC.1 hC.2.1 hr hn (fun t ht hW => ⟨⟨v, (), rfl, ⟨h0, rfl⟩, by show va_P D vwCl (qcells G ad w) t.heap; rw [ht]; exact hR.1⟩, hR.2.F ht⟩) hR.2.2.2 hdg hC.2.2.2.2.2.1))
theorem qx_vret (hC : qCx p c0 cc nL s m args meth own D G ad) (hR : qRp D G ad s w H locs) (hr : meth.sig.returnType = none) (h0 : code = 0) (hw : w = w1) (hdg : decode cc pc = .ok (.return_, 1)) (hc : cells ≤ mc) (hs : slots ≤ ms) :
    W p l e R s m args below meth c0 H locs cells slots (vx_MQ below (qxQV D G ad s code w1) (qXC D G ad s code w1) args s mc ms (qAdr ad s.heap.size)) (F0 m pc ls []) := by
  subst hw
  exact vx_ret (W.widen hc hs (W.vret hC.1 hC.2.1 hr (fun t ht hW => ⟨⟨(), rfl, h0, by show va_P D vwCl (qcells G ad w) t.heap; rw [ht]; exact hR.1⟩, hR.2.F ht⟩) hR.2.2.2 hdg hC.2.2.2.2.2.1))
theorem qx_aret {x x1 : Nat} {n : String} (hC : qCx p c0 cc nL s m args meth own D G ad) (hR : qRp D G ad s w H locs) (hr : meth.sig.returnType = some (.object n)) (h0 : code = 0) (hx : x = x1) (hw : w = w1) (hdg : decode cc pc = .ok (.areturn, 1)) (hc : cells ≤ mc) (hs : slots ≤ ms) :
    W p l e R s m args below meth c0 H locs cells slots (vx_MQ below (qxQR D G ad s code x1 w1) (qXC D G ad s code w1) args s mc ms (qAdr ad s.heap.size)) (F0 m pc ls [.ref (ad x)]) := by
  subst hw; subst hx
  exact vx_ret (W.widen hc hs (W.aret hC.1 hC.2.1 hr (Or.inl ⟨n, rfl⟩) (Or.inr ⟨_, rfl⟩) (fun t ht hW => ⟨⟨(), ad x, rfl, h0, rfl, by show va_P D vwCl (qcells G ad w) t.heap; rw [ht]; exact hR.1⟩, hR.2.F ht⟩) hR.2.2.2 hdg hC.2.2.2.2.2.1))

theorem qx_callVi {y : MethodName} {bytes : ByteArray} {maxL d mc ms index x ci : Nat} {ret : Option FieldType} {As st : List Value} {r : Int32} {w2 : qMem} {code2 : Nat} {fs : List Value} {q : vw_C} (hC : qCx p c0 cc nL s m args meth own D G ad) (hR : qRp D G ad s w H locs)
    (hM : qCX l D G ad y bytes maxL ret d mc ms (.ref (ad x) :: As) w (fun st => qxQI D G ad st code2 r w2) code2 w2) (hx : x < 247) (hs : qshp G ad (w x) x = .inr (ci, fs)) (hc : vwCl[ci]? = some q) (hlk : Cond.methodLink own index y ∈ lw_gd) (hin : Cond.instanceMethod y ∈ lw_gd) (hse : Cond.selects q.1 y y ∈ lw_gd) (hini : Cond.initialized y.cls ∈ lw_gd) (hcode : Cond.code y bytes maxL ret ∈ lw_gd)
    (hd : y.cls ≠ "java/lang/invoke/MethodHandle" ∧ y.cls ≠ "java/lang/invoke/VarHandle" ∧ (parseMethodDescriptor y.desc).map (fun d => d.parameters.length) = some As.length) (hroom : d + 1 ≤ R.frames ∧ 8 + (maxL + 11) + 40 * d ≤ R.locals) (hsz : ls.size = nL) (hst : st = As.reverse ++ .ref (ad x) :: rest) (hcat : (rest.map fun v => v.category).sum ≤ 8) (hdg : decode cc pc = .ok (.invokevirtual index, 3)) (hf : cells + mc ≤ R.cells ∧ slots + ms ≤ R.slots)
    (kx : code2 ≠ 0 → ∀ (H1 : Heap) (locs1 : List Loc) (ce : Cell) (q9 : Addr), qRp D G ad s w2 H1 locs1 → H1[q9]? = some ce → ce.vm = .none → s.vm.findClass (qexn code2) = some ce.cls → vx_W p l e R s m args below meth c0 H1 locs1 (cells + mc) (slots + ms) Q (F0 m pc ls rest) q9)
    (kk : code2 = 0 → ∀ (H1 : Heap) (locs1 : List Loc), qRp D G ad s w2 H1 locs1 → W p l e R s m args below meth c0 H1 locs1 (cells + mc) (slots + ms) Q (F0 m (pc + 3) ls (.int r :: rest))) : W p l e R s m args below meth c0 H locs cells slots Q (F0 m pc ls st) := by
  obtain ⟨hx1, hb, hml, hown, hts, hlo, hK, hJ, hX⟩ := hC
  have hcB : CallB R s args own index y bytes maxL ret (Cond.code y bytes maxL ret :: lw_gd) (qrm d mc ms) mc ms As.length := callB_of As.length hts (q_goodIn hcode) rfl rfl rfl (hts _ hini) (hts _ hlk) hd hroom
  have hS := hR.2
  let sH : State := { s with heap := H }
  refine vx_calli (vx_runV (As := As) (rest := rest) (C := q.1) (Ts := lw_gd) ⟨hx1, hb, hml, hown, hts⟩ (hM sH) ⟨hcB, hts _ hin, hts _ hse⟩ ⟨qpre_blind, va_recv hK hR.1 (ci := ci) (q0 := x) hc (by rw [qat G ad w hx, hs]), fun U hU hW => ⟨rfl, by rw [hU], by rw [hU]; exact hR.1, va_K.moved hW.alike hK, by rw [hU]; exact qX_go hX hW hS.2.1 (qAdr_mono hS.1)⟩⟩ rfl rfl hsz hst (lv_room hcat) hdg hf) hS (fun q _ h => qAdr_mono hS.1 q h) (qAdr_mono hS.1) (fun q _ h => qAdr_mono hS.1 q h) (fun E ce q9 u t H1 locs1 ht hvm hp hB hz1 hk1 hS1 hce hcv hcl => ?_) (fun r1 u t H1 locs1 ht hvm hw hB hz1 hk1 hS1 => ?_)
  · obtain ⟨hE, hB⟩ := hB
    subst hE
    rw [ht] at hB
    exact kx hp H1 locs1 ce q9 ⟨hB, hS1⟩ hce hcv hcl
  · obtain ⟨h0, rfl⟩ := hw
    rw [ht] at hB
    exact kk h0 H1 locs1 ⟨hB, hS1⟩

theorem qx_callVr {y : MethodName} {bytes : ByteArray} {maxL d mc ms index x ci : Nat} {ret : Option FieldType} {As st : List Value} {x1 : Nat} {w2 : qMem} {code2 : Nat} {fs : List Value} {q : vw_C} (hC : qCx p c0 cc nL s m args meth own D G ad) (hR : qRp D G ad s w H locs)
    (hM : qCX l D G ad y bytes maxL ret d mc ms (.ref (ad x) :: As) w (fun st => qxQR D G ad st code2 x1 w2) code2 w2) (hx : x < 247) (hs : qshp G ad (w x) x = .inr (ci, fs)) (hc : vwCl[ci]? = some q) (hlk : Cond.methodLink own index y ∈ lw_gd) (hin : Cond.instanceMethod y ∈ lw_gd) (hse : Cond.selects q.1 y y ∈ lw_gd) (hini : Cond.initialized y.cls ∈ lw_gd) (hcode : Cond.code y bytes maxL ret ∈ lw_gd)
    (hd : y.cls ≠ "java/lang/invoke/MethodHandle" ∧ y.cls ≠ "java/lang/invoke/VarHandle" ∧ (parseMethodDescriptor y.desc).map (fun d => d.parameters.length) = some As.length) (hroom : d + 1 ≤ R.frames ∧ 8 + (maxL + 11) + 40 * d ≤ R.locals) (hsz : ls.size = nL) (hst : st = As.reverse ++ .ref (ad x) :: rest) (hcat : (rest.map fun v => v.category).sum ≤ 8) (hdg : decode cc pc = .ok (.invokevirtual index, 3)) (hf : cells + mc ≤ R.cells ∧ slots + ms ≤ R.slots)
    (kx : code2 ≠ 0 → ∀ (H1 : Heap) (locs1 : List Loc) (ce : Cell) (q9 : Addr), qRp D G ad s w2 H1 locs1 → H1[q9]? = some ce → ce.vm = .none → s.vm.findClass (qexn code2) = some ce.cls → vx_W p l e R s m args below meth c0 H1 locs1 (cells + mc) (slots + ms) Q (F0 m pc ls rest) q9)
    (kk : code2 = 0 → ∀ (H1 : Heap) (locs1 : List Loc), qRp D G ad s w2 H1 locs1 → W p l e R s m args below meth c0 H1 locs1 (cells + mc) (slots + ms) Q (F0 m (pc + 3) ls (.ref (ad x1) :: rest))) : W p l e R s m args below meth c0 H locs cells slots Q (F0 m pc ls st) := by
  obtain ⟨hx1, hb, hml, hown, hts, hlo, hK, hJ, hX⟩ := hC
  have hcB : CallB R s args own index y bytes maxL ret (Cond.code y bytes maxL ret :: lw_gd) (qrm d mc ms) mc ms As.length := callB_of As.length hts (q_goodIn hcode) rfl rfl rfl (hts _ hini) (hts _ hlk) hd hroom
  have hS := hR.2
  let sH : State := { s with heap := H }
  refine q_xcallr (vx_runV (As := As) (rest := rest) (C := q.1) (Ts := lw_gd) ⟨hx1, hb, hml, hown, hts⟩ (hM sH) ⟨hcB, hts _ hin, hts _ hse⟩ ⟨qpre_blind, va_recv hK hR.1 (ci := ci) (q0 := x) hc (by rw [qat G ad w hx, hs]), fun U hU hW => ⟨rfl, by rw [hU], by rw [hU]; exact hR.1, va_K.moved hW.alike hK, by rw [hU]; exact qX_go hX hW hS.2.1 (qAdr_mono hS.1)⟩⟩ rfl rfl hsz hst (lv_room hcat) hdg hf) hS (fun q _ h => qAdr_mono hS.1 q h) (qAdr_mono hS.1) (fun q _ h => qAdr_mono hS.1 q h) (fun E ce q9 u t H1 locs1 ht hvm hp hB hz1 hk1 hS1 hce hcv hcl => ?_) (fun u a t H1 locs1 ht hvm hw hB hz1 hk1 hS1 => ?_)
  · obtain ⟨hE, hB⟩ := hB
    subst hE
    rw [ht] at hB
    exact kx hp H1 locs1 ce q9 ⟨hB, hS1⟩ hce hcv hcl
  · rw [ht] at hB
    obtain ⟨rfl, hB⟩ := hB
    exact kk hw H1 locs1 ⟨hB, hS1⟩

theorem qx_callVv {y : MethodName} {bytes : ByteArray} {maxL d mc ms index x ci : Nat} {ret : Option FieldType} {As st : List Value} {w2 : qMem} {code2 : Nat} {fs : List Value} {q : vw_C} (hC : qCx p c0 cc nL s m args meth own D G ad) (hR : qRp D G ad s w H locs)
    (hM : qCX l D G ad y bytes maxL ret d mc ms (.ref (ad x) :: As) w (fun st => qxQV D G ad st code2 w2) code2 w2) (hx : x < 247) (hs : qshp G ad (w x) x = .inr (ci, fs)) (hc : vwCl[ci]? = some q) (hlk : Cond.methodLink own index y ∈ lw_gd) (hin : Cond.instanceMethod y ∈ lw_gd) (hse : Cond.selects q.1 y y ∈ lw_gd) (hini : Cond.initialized y.cls ∈ lw_gd) (hcode : Cond.code y bytes maxL ret ∈ lw_gd)
    (hd : y.cls ≠ "java/lang/invoke/MethodHandle" ∧ y.cls ≠ "java/lang/invoke/VarHandle" ∧ (parseMethodDescriptor y.desc).map (fun d => d.parameters.length) = some As.length) (hroom : d + 1 ≤ R.frames ∧ 8 + (maxL + 11) + 40 * d ≤ R.locals) (hsz : ls.size = nL) (hst : st = As.reverse ++ .ref (ad x) :: rest) (hcat : (rest.map fun v => v.category).sum ≤ 8) (hdg : decode cc pc = .ok (.invokevirtual index, 3)) (hf : cells + mc ≤ R.cells ∧ slots + ms ≤ R.slots)
    (kx : code2 ≠ 0 → ∀ (H1 : Heap) (locs1 : List Loc) (ce : Cell) (q9 : Addr), qRp D G ad s w2 H1 locs1 → H1[q9]? = some ce → ce.vm = .none → s.vm.findClass (qexn code2) = some ce.cls → vx_W p l e R s m args below meth c0 H1 locs1 (cells + mc) (slots + ms) Q (F0 m pc ls rest) q9)
    (kk : code2 = 0 → ∀ (H1 : Heap) (locs1 : List Loc), qRp D G ad s w2 H1 locs1 → W p l e R s m args below meth c0 H1 locs1 (cells + mc) (slots + ms) Q (F0 m (pc + 3) ls (rest))) : W p l e R s m args below meth c0 H locs cells slots Q (F0 m pc ls st) := by
  obtain ⟨hx1, hb, hml, hown, hts, hlo, hK, hJ, hX⟩ := hC
  have hcB : CallB R s args own index y bytes maxL ret (Cond.code y bytes maxL ret :: lw_gd) (qrm d mc ms) mc ms As.length := callB_of As.length hts (q_goodIn hcode) rfl rfl rfl (hts _ hini) (hts _ hlk) hd hroom
  have hS := hR.2
  let sH : State := { s with heap := H }
  refine vx_callv (vx_runV (As := As) (rest := rest) (C := q.1) (Ts := lw_gd) ⟨hx1, hb, hml, hown, hts⟩ (hM sH) ⟨hcB, hts _ hin, hts _ hse⟩ ⟨qpre_blind, va_recv hK hR.1 (ci := ci) (q0 := x) hc (by rw [qat G ad w hx, hs]), fun U hU hW => ⟨rfl, by rw [hU], by rw [hU]; exact hR.1, va_K.moved hW.alike hK, by rw [hU]; exact qX_go hX hW hS.2.1 (qAdr_mono hS.1)⟩⟩ rfl rfl hsz hst (lv_room hcat) hdg hf) hS (fun q _ h => qAdr_mono hS.1 q h) (qAdr_mono hS.1) (fun q _ h => qAdr_mono hS.1 q h) (fun E ce q9 u t H1 locs1 ht hvm hp hB hz1 hk1 hS1 hce hcv hcl => ?_) (fun u t H1 locs1 ht hvm hw hB hz1 hk1 hS1 => ?_)
  · obtain ⟨hE, hB⟩ := hB
    subst hE
    rw [ht] at hB
    exact kx hp H1 locs1 ce q9 ⟨hB, hS1⟩ hce hcv hcl
  · rw [ht] at hB
    exact kk hw H1 locs1 ⟨hB, hS1⟩

theorem qx_callSv {y : MethodName} {bytes : ByteArray} {maxL d mc ms index : Nat} {ret : Option FieldType} {As st : List Value} {w2 : qMem} {code2 : Nat} (hC : qCx p c0 cc nL s m args meth own D G ad) (hR : qRp D G ad s w H locs)
    (hM : qCX l D G ad y bytes maxL ret d mc ms As w (fun st => qxQV D G ad st code2 w2) code2 w2) (hlk : Cond.methodLink own index y ∈ lw_gd) (hin : Cond.static y ∈ lw_gd) (hini : Cond.initialized y.cls ∈ lw_gd) (hcode : Cond.code y bytes maxL ret ∈ lw_gd)
    (hd : y.cls ≠ "java/lang/invoke/MethodHandle" ∧ y.cls ≠ "java/lang/invoke/VarHandle" ∧ (parseMethodDescriptor y.desc).map (fun d => d.parameters.length) = some As.length) (hroom : d + 1 ≤ R.frames ∧ 8 + (maxL + 11) + 40 * d ≤ R.locals) (hsz : ls.size = nL) (hst : st = As.reverse ++ rest) (hcat : (rest.map fun v => v.category).sum ≤ 8) (hdg : decode cc pc = .ok (.invokestatic index, 3)) (hf : cells + mc ≤ R.cells ∧ slots + ms ≤ R.slots)
    (kx : code2 ≠ 0 → ∀ (H1 : Heap) (locs1 : List Loc) (ce : Cell) (q9 : Addr), qRp D G ad s w2 H1 locs1 → H1[q9]? = some ce → ce.vm = .none → s.vm.findClass (qexn code2) = some ce.cls → vx_W p l e R s m args below meth c0 H1 locs1 (cells + mc) (slots + ms) Q (F0 m pc ls rest) q9)
    (kk : code2 = 0 → ∀ (H1 : Heap) (locs1 : List Loc), qRp D G ad s w2 H1 locs1 → W p l e R s m args below meth c0 H1 locs1 (cells + mc) (slots + ms) Q (F0 m (pc + 3) ls (rest))) : W p l e R s m args below meth c0 H locs cells slots Q (F0 m pc ls st) := by
  obtain ⟨hx1, hb, hml, hown, hts, hlo, hK, hJ, hX⟩ := hC
  have hcB : CallB R s args own index y bytes maxL ret (Cond.code y bytes maxL ret :: lw_gd) (qrm d mc ms) mc ms As.length := callB_of As.length hts (q_goodIn hcode) rfl rfl rfl (hts _ hini) (hts _ hlk) hd hroom
  have hS := hR.2
  let sH : State := { s with heap := H }
  refine vx_callv (vx_runS (As := As) (rest := rest) (Ts := lw_gd) ⟨hx1, hb, hml, hown, hts⟩ (hM sH) ⟨hcB, hts _ hin⟩ ⟨qpre_blind, fun U hU hW => ⟨rfl, by rw [hU], by rw [hU]; exact hR.1, va_K.moved hW.alike hK, by rw [hU]; exact qX_go hX hW hS.2.1 (qAdr_mono hS.1)⟩⟩ rfl rfl hsz hst (lv_room hcat) hdg hf) hS (fun q _ h => qAdr_mono hS.1 q h) (qAdr_mono hS.1) (fun q _ h => qAdr_mono hS.1 q h) (fun E ce q9 u t H1 locs1 ht hvm hp hB hz1 hk1 hS1 hce hcv hcl => ?_) (fun u t H1 locs1 ht hvm hw hB hz1 hk1 hS1 => ?_)
  · obtain ⟨hE, hB⟩ := hB
    subst hE
    rw [ht] at hB
    exact kx hp H1 locs1 ce q9 ⟨hB, hS1⟩ hce hcv hcl
  · rw [ht] at hB
    exact kk hw H1 locs1 ⟨hB, hS1⟩

theorem qx_out {ce : Cell} {q9 : Addr} {Qc : Array Value → State → Outcome → State → Prop} (hC : qCx p c0 cc nL s m args meth own D G ad) (hR : qRp D G ad s w H locs) (ht : ∀ x ∈ c0.exceptionTable.toList, False) {code2 : Nat} (he : code2 = code) (h0 : code2 ≠ 0) (hw : w = w1) (hce : H[q9]? = some ce) (hcv : ce.vm = .none) (hcl : s.vm.findClass (qexn code2) = some ce.cls) (hc : cells ≤ mc) (hs : slots ≤ ms) :
    vx_W p l e R s m args below meth c0 H locs cells slots (vx_MQ below Qc (qXC D G ad s code w1) args s mc ms (qAdr ad s.heap.size)) (F0 m pc ls rest) q9 := by
  subst he; subst hw
  exact vx_out (fun x hx => (ht x hx).elim) hC.2.2.2.2.2.1 hce hcv hcl (fun t h1 h2 => ⟨(), h0, ⟨rfl, by rw [h1]; exact hR.1⟩, hR.2.F h1⟩) hR.2.2.2 hc hs
end
theorem qxw_78 : ∀ w ∈ qxw RX5 78 "java/lang/IllegalArgumentException", w ∈ lw_gd ∨ w ∈ lw_ct := by decide +kernel
theorem qxi_78 : Cond.initialized "java/lang/IllegalArgumentException" ∈ lw_gd := List.mem_filter.mpr ⟨List.mem_of_getElem? (i := 69) (by decide +kernel), by decide +kernel⟩
theorem qxw_83 : ∀ w ∈ qxw RX5 83 "java/lang/UnsupportedOperationException", w ∈ lw_gd ∨ w ∈ lw_ct := by decide +kernel
theorem qxi_83 : Cond.initialized "java/lang/UnsupportedOperationException" ∈ lw_gd := List.mem_filter.mpr ⟨List.mem_of_getElem? (i := 70) (by decide +kernel), by decide +kernel⟩
theorem qxw_71 : ∀ w ∈ qxw RX5 71 "java/lang/IndexOutOfBoundsException", w ∈ lw_gd ∨ w ∈ lw_ct := by decide +kernel
theorem qxi_71 : Cond.initialized "java/lang/IndexOutOfBoundsException" ∈ lw_gd := List.mem_filter.mpr ⟨List.mem_of_getElem? (i := 72) (by decide +kernel), by decide +kernel⟩
theorem qxw_126 : ∀ w ∈ qxwN RX5 126 "java/util/NoSuchElementException", w ∈ lw_gd ∨ w ∈ lw_ct := by decide +kernel
theorem qxi_126 : Cond.initialized "java/util/NoSuchElementException" ∈ lw_gd := List.mem_filter.mpr ⟨List.mem_of_getElem? (i := 75) (by decide +kernel), by decide +kernel⟩
theorem qxw_210 : ∀ w ∈ qxw RX5 210 "java/lang/IllegalStateException", w ∈ lw_gd ∨ w ∈ lw_ct := by decide +kernel
theorem qxi_210 : Cond.initialized "java/lang/IllegalStateException" ∈ lw_gd := List.mem_filter.mpr ⟨List.mem_of_getElem? (i := 81) (by decide +kernel), by decide +kernel⟩
theorem qxw_287 : ∀ w ∈ qxw RX5 287 "java/lang/ArithmeticException", w ∈ lw_gd ∨ w ∈ lw_ct := by decide +kernel
theorem qxi_287 : Cond.initialized "java/lang/ArithmeticException" ∈ lw_gd := List.mem_filter.mpr ⟨List.mem_of_getElem? (i := 87) (by decide +kernel), by decide +kernel⟩
end
