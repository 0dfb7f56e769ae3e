section
-- ===== PART A: goes FIRST, ahead of the names: the tables' words, and 'selects' of the private methods out of them =====
/-- a private method of a class that the tables say can be made, by its rows of tables_1 -/
def lw_okq (q : MethodName × Nat) : Prop := (q.1.cls ≠ "java/lang/invoke/MethodHandle" ∧ q.1.cls ≠ "java/lang/invoke/VarHandle") ∧ Cond.instantiable q.1.cls q.2 ∈ tables_1 ∧ Cond.privateMethod q.1 ∈ tables_1 ∧ Cond.instanceMethod q.1 ∈ tables_1
theorem lw_p0 : lw_okq (⟨"QuakeRehearsal", "change", "(III)I"⟩, 11) := ⟨⟨by decide +kernel, by decide +kernel⟩, List.mem_of_getElem? (i := 32) (by decide +kernel), List.mem_of_getElem? (i := 246) (by decide +kernel), List.mem_of_getElem? (i := 247) (by decide +kernel)⟩
theorem lw_p1 : lw_okq (⟨"QuakeRehearsal", "tryOrder", "(III)I"⟩, 11) := ⟨⟨by decide +kernel, by decide +kernel⟩, List.mem_of_getElem? (i := 32) (by decide +kernel), List.mem_of_getElem? (i := 266) (by decide +kernel), List.mem_of_getElem? (i := 267) (by decide +kernel)⟩
theorem lw_p2 : lw_okq (⟨"QuakeRehearsal", "tryPlacing", "(III)I"⟩, 11) := ⟨⟨by decide +kernel, by decide +kernel⟩, List.mem_of_getElem? (i := 32) (by decide +kernel), List.mem_of_getElem? (i := 270) (by decide +kernel), List.mem_of_getElem? (i := 271) (by decide +kernel)⟩
theorem lw_p3 : lw_okq (⟨"QuakeRehearsal", "refuse", "(II)I"⟩, 11) := ⟨⟨by decide +kernel, by decide +kernel⟩, List.mem_of_getElem? (i := 32) (by decide +kernel), List.mem_of_getElem? (i := 277) (by decide +kernel), List.mem_of_getElem? (i := 278) (by decide +kernel)⟩
theorem lw_p4 : lw_okq (⟨"QuakeRehearsal", "answered", "(I)I"⟩, 11) := ⟨⟨by decide +kernel, by decide +kernel⟩, List.mem_of_getElem? (i := 32) (by decide +kernel), List.mem_of_getElem? (i := 293) (by decide +kernel), List.mem_of_getElem? (i := 294) (by decide +kernel)⟩
theorem lw_p5 : lw_okq (⟨"QuakeRehearsal", "tryTaking", "(I)I"⟩, 11) := ⟨⟨by decide +kernel, by decide +kernel⟩, List.mem_of_getElem? (i := 32) (by decide +kernel), List.mem_of_getElem? (i := 297) (by decide +kernel), List.mem_of_getElem? (i := 298) (by decide +kernel)⟩
theorem lw_p6 : lw_okq (⟨"QuakeRehearsal", "tryCueing", "(II)I"⟩, 11) := ⟨⟨by decide +kernel, by decide +kernel⟩, List.mem_of_getElem? (i := 32) (by decide +kernel), List.mem_of_getElem? (i := 305) (by decide +kernel), List.mem_of_getElem? (i := 306) (by decide +kernel)⟩
theorem lw_p7 : lw_okq (⟨"QuakeRehearsal", "trySetting", "(I)I"⟩, 11) := ⟨⟨by decide +kernel, by decide +kernel⟩, List.mem_of_getElem? (i := 32) (by decide +kernel), List.mem_of_getElem? (i := 313) (by decide +kernel), List.mem_of_getElem? (i := 314) (by decide +kernel)⟩
theorem lw_p8 : lw_okq (⟨"QuakeRehearsal", "tryAdding", "(I)I"⟩, 11) := ⟨⟨by decide +kernel, by decide +kernel⟩, List.mem_of_getElem? (i := 32) (by decide +kernel), List.mem_of_getElem? (i := 373) (by decide +kernel), List.mem_of_getElem? (i := 374) (by decide +kernel)⟩
theorem lw_p9 : lw_okq (⟨"QuakeRehearsal", "marksInThought", "(I)I"⟩, 11) := ⟨⟨by decide +kernel, by decide +kernel⟩, List.mem_of_getElem? (i := 32) (by decide +kernel), List.mem_of_getElem? (i := 415) (by decide +kernel), List.mem_of_getElem? (i := 416) (by decide +kernel)⟩
theorem lw_p10 : lw_okq (⟨"QuakeRehearsal", "isReachAlike", "()Z"⟩, 11) := ⟨⟨by decide +kernel, by decide +kernel⟩, List.mem_of_getElem? (i := 32) (by decide +kernel), List.mem_of_getElem? (i := 444) (by decide +kernel), List.mem_of_getElem? (i := 445) (by decide +kernel)⟩
theorem lw_p11 : lw_okq (⟨"QuakeRehearsal", "areBreakagesAlike", "()Z"⟩, 11) := ⟨⟨by decide +kernel, by decide +kernel⟩, List.mem_of_getElem? (i := 32) (by decide +kernel), List.mem_of_getElem? (i := 457) (by decide +kernel), List.mem_of_getElem? (i := 458) (by decide +kernel)⟩
theorem lw_p12 : lw_okq (⟨"QuakeRehearsal", "breakagesInThought", "(I)I"⟩, 11) := ⟨⟨by decide +kernel, by decide +kernel⟩, List.mem_of_getElem? (i := 32) (by decide +kernel), List.mem_of_getElem? (i := 461) (by decide +kernel), List.mem_of_getElem? (i := 462) (by decide +kernel)⟩
theorem lw_p13 : lw_okq (⟨"QuakeRehearsal", "placed", "(III)I"⟩, 11) := ⟨⟨by decide +kernel, by decide +kernel⟩, List.mem_of_getElem? (i := 32) (by decide +kernel), List.mem_of_getElem? (i := 495) (by decide +kernel), List.mem_of_getElem? (i := 496) (by decide +kernel)⟩
theorem lw_p14 : lw_okq (⟨"java/lang/Throwable", "fillInStackTrace", "(I)Ljava/lang/Throwable;"⟩, 6) := ⟨⟨by decide +kernel, by decide +kernel⟩, List.mem_of_getElem? (i := 541) (by decide +kernel), List.mem_of_getElem? (i := 539) (by decide +kernel), List.mem_of_getElem? (i := 540) (by decide +kernel)⟩
theorem lw_p15 : lw_okq (⟨"QuakeRehearsal", "strengthTold", "(II)I"⟩, 11) := ⟨⟨by decide +kernel, by decide +kernel⟩, List.mem_of_getElem? (i := 32) (by decide +kernel), List.mem_of_getElem? (i := 661) (by decide +kernel), List.mem_of_getElem? (i := 662) (by decide +kernel)⟩
def lw_privs_1 : List (MethodName × Nat) := [(⟨"QuakeRehearsal", "change", "(III)I"⟩, 11), (⟨"QuakeRehearsal", "tryOrder", "(III)I"⟩, 11), (⟨"QuakeRehearsal", "tryPlacing", "(III)I"⟩, 11), (⟨"QuakeRehearsal", "refuse", "(II)I"⟩, 11), (⟨"QuakeRehearsal", "answered", "(I)I"⟩, 11), (⟨"QuakeRehearsal", "tryTaking", "(I)I"⟩, 11), (⟨"QuakeRehearsal", "tryCueing", "(II)I"⟩, 11), (⟨"QuakeRehearsal", "trySetting", "(I)I"⟩, 11), (⟨"QuakeRehearsal", "tryAdding", "(I)I"⟩, 11), (⟨"QuakeRehearsal", "marksInThought", "(I)I"⟩, 11), (⟨"QuakeRehearsal", "isReachAlike", "()Z"⟩, 11), (⟨"QuakeRehearsal", "areBreakagesAlike", "()Z"⟩, 11), (⟨"QuakeRehearsal", "breakagesInThought", "(I)I"⟩, 11), (⟨"QuakeRehearsal", "placed", "(III)I"⟩, 11), (⟨"java/lang/Throwable", "fillInStackTrace", "(I)Ljava/lang/Throwable;"⟩, 6), (⟨"QuakeRehearsal", "strengthTold", "(II)I"⟩, 11)]
theorem lw_r1 : ∀ q ∈ lw_privs_1, lw_okq q := List.forall_mem_cons.mpr ⟨lw_p0, List.forall_mem_cons.mpr ⟨lw_p1, List.forall_mem_cons.mpr ⟨lw_p2, List.forall_mem_cons.mpr ⟨lw_p3, List.forall_mem_cons.mpr ⟨lw_p4, List.forall_mem_cons.mpr ⟨lw_p5, List.forall_mem_cons.mpr ⟨lw_p6, List.forall_mem_cons.mpr ⟨lw_p7, List.forall_mem_cons.mpr ⟨lw_p8, List.forall_mem_cons.mpr ⟨lw_p9, List.forall_mem_cons.mpr ⟨lw_p10, List.forall_mem_cons.mpr ⟨lw_p11, List.forall_mem_cons.mpr ⟨lw_p12, List.forall_mem_cons.mpr ⟨lw_p13, List.forall_mem_cons.mpr ⟨lw_p14, List.forall_mem_cons.mpr ⟨lw_p15, fun _ h => absurd h List.not_mem_nil⟩⟩⟩⟩⟩⟩⟩⟩⟩⟩⟩⟩⟩⟩⟩⟩
theorem lw_p16 : lw_okq (⟨"QuakeRehearsal", "propNumbered", "(I)LQuakeRehearsal$Prop;"⟩, 11) := ⟨⟨by decide +kernel, by decide +kernel⟩, List.mem_of_getElem? (i := 32) (by decide +kernel), List.mem_of_getElem? (i := 689) (by decide +kernel), List.mem_of_getElem? (i := 690) (by decide +kernel)⟩
theorem lw_p17 : lw_okq (⟨"QuakeRehearsal", "numberInOrder", "(II)I"⟩, 11) := ⟨⟨by decide +kernel, by decide +kernel⟩, List.mem_of_getElem? (i := 32) (by decide +kernel), List.mem_of_getElem? (i := 773) (by decide +kernel), List.mem_of_getElem? (i := 774) (by decide +kernel)⟩
theorem lw_p18 : lw_okq (⟨"QuakeRehearsalModel", "keep", "()V"⟩, 21) := ⟨⟨by decide +kernel, by decide +kernel⟩, List.mem_of_getElem? (i := 1063) (by decide +kernel), List.mem_of_getElem? (i := 1145) (by decide +kernel), List.mem_of_getElem? (i := 1146) (by decide +kernel)⟩
theorem lw_p19 : lw_okq (⟨"QuakeRehearsalModel", "comes", "(III)I"⟩, 21) := ⟨⟨by decide +kernel, by decide +kernel⟩, List.mem_of_getElem? (i := 1063) (by decide +kernel), List.mem_of_getElem? (i := 1152) (by decide +kernel), List.mem_of_getElem? (i := 1153) (by decide +kernel)⟩
theorem lw_p20 : lw_okq (⟨"QuakeRehearsalModel", "fails", "(I)I"⟩, 21) := ⟨⟨by decide +kernel, by decide +kernel⟩, List.mem_of_getElem? (i := 1063) (by decide +kernel), List.mem_of_getElem? (i := 1162) (by decide +kernel), List.mem_of_getElem? (i := 1163) (by decide +kernel)⟩
theorem lw_p21 : lw_okq (⟨"QuakeRehearsalModel", "refuse", "(III)I"⟩, 21) := ⟨⟨by decide +kernel, by decide +kernel⟩, List.mem_of_getElem? (i := 1063) (by decide +kernel), List.mem_of_getElem? (i := 1166) (by decide +kernel), List.mem_of_getElem? (i := 1167) (by decide +kernel)⟩
theorem lw_p22 : lw_okq (⟨"QuakeRehearsalModel", "there", "(II)I"⟩, 21) := ⟨⟨by decide +kernel, by decide +kernel⟩, List.mem_of_getElem? (i := 1063) (by decide +kernel), List.mem_of_getElem? (i := 1170) (by decide +kernel), List.mem_of_getElem? (i := 1171) (by decide +kernel)⟩
theorem lw_p23 : lw_okq (⟨"QuakeRehearsalModel", "of", "(II)I"⟩, 21) := ⟨⟨by decide +kernel, by decide +kernel⟩, List.mem_of_getElem? (i := 1063) (by decide +kernel), List.mem_of_getElem? (i := 1174) (by decide +kernel), List.mem_of_getElem? (i := 1175) (by decide +kernel)⟩
theorem lw_p24 : lw_okq (⟨"QuakeRehearsalModel", "sets", "(III)V"⟩, 21) := ⟨⟨by decide +kernel, by decide +kernel⟩, List.mem_of_getElem? (i := 1063) (by decide +kernel), List.mem_of_getElem? (i := 1178) (by decide +kernel), List.mem_of_getElem? (i := 1179) (by decide +kernel)⟩
theorem lw_p25 : lw_okq (⟨"QuakeRehearsalModel", "ends", "(I)I"⟩, 21) := ⟨⟨by decide +kernel, by decide +kernel⟩, List.mem_of_getElem? (i := 1063) (by decide +kernel), List.mem_of_getElem? (i := 1182) (by decide +kernel), List.mem_of_getElem? (i := 1183) (by decide +kernel)⟩
theorem lw_p26 : lw_okq (⟨"QuakeRehearsalModel", "doTake", "(I)I"⟩, 21) := ⟨⟨by decide +kernel, by decide +kernel⟩, List.mem_of_getElem? (i := 1063) (by decide +kernel), List.mem_of_getElem? (i := 1198) (by decide +kernel), List.mem_of_getElem? (i := 1199) (by decide +kernel)⟩
theorem lw_p27 : lw_okq (⟨"QuakeRehearsalModel", "isProp", "(I)Z"⟩, 21) := ⟨⟨by decide +kernel, by decide +kernel⟩, List.mem_of_getElem? (i := 1063) (by decide +kernel), List.mem_of_getElem? (i := 1202) (by decide +kernel), List.mem_of_getElem? (i := 1203) (by decide +kernel)⟩
theorem lw_p28 : lw_okq (⟨"QuakeRehearsalModel", "doCue", "(II)I"⟩, 21) := ⟨⟨by decide +kernel, by decide +kernel⟩, List.mem_of_getElem? (i := 1063) (by decide +kernel), List.mem_of_getElem? (i := 1210) (by decide +kernel), List.mem_of_getElem? (i := 1211) (by decide +kernel)⟩
theorem lw_p29 : lw_okq (⟨"QuakeRehearsalModel", "doSet", "(I)I"⟩, 21) := ⟨⟨by decide +kernel, by decide +kernel⟩, List.mem_of_getElem? (i := 1063) (by decide +kernel), List.mem_of_getElem? (i := 1218) (by decide +kernel), List.mem_of_getElem? (i := 1219) (by decide +kernel)⟩
theorem lw_p30 : lw_okq (⟨"QuakeRehearsalModel", "shocks", "(I)I"⟩, 21) := ⟨⟨by decide +kernel, by decide +kernel⟩, List.mem_of_getElem? (i := 1063) (by decide +kernel), List.mem_of_getElem? (i := 1229) (by decide +kernel), List.mem_of_getElem? (i := 1230) (by decide +kernel)⟩
theorem lw_p31 : lw_okq (⟨"QuakeRehearsalModel", "strengthOn", "(II)I"⟩, 21) := ⟨⟨by decide +kernel, by decide +kernel⟩, List.mem_of_getElem? (i := 1063) (by decide +kernel), List.mem_of_getElem? (i := 1233) (by decide +kernel), List.mem_of_getElem? (i := 1234) (by decide +kernel)⟩
def lw_privs_2 : List (MethodName × Nat) := [(⟨"QuakeRehearsal", "propNumbered", "(I)LQuakeRehearsal$Prop;"⟩, 11), (⟨"QuakeRehearsal", "numberInOrder", "(II)I"⟩, 11), (⟨"QuakeRehearsalModel", "keep", "()V"⟩, 21), (⟨"QuakeRehearsalModel", "comes", "(III)I"⟩, 21), (⟨"QuakeRehearsalModel", "fails", "(I)I"⟩, 21), (⟨"QuakeRehearsalModel", "refuse", "(III)I"⟩, 21), (⟨"QuakeRehearsalModel", "there", "(II)I"⟩, 21), (⟨"QuakeRehearsalModel", "of", "(II)I"⟩, 21), (⟨"QuakeRehearsalModel", "sets", "(III)V"⟩, 21), (⟨"QuakeRehearsalModel", "ends", "(I)I"⟩, 21), (⟨"QuakeRehearsalModel", "doTake", "(I)I"⟩, 21), (⟨"QuakeRehearsalModel", "isProp", "(I)Z"⟩, 21), (⟨"QuakeRehearsalModel", "doCue", "(II)I"⟩, 21), (⟨"QuakeRehearsalModel", "doSet", "(I)I"⟩, 21), (⟨"QuakeRehearsalModel", "shocks", "(I)I"⟩, 21), (⟨"QuakeRehearsalModel", "strengthOn", "(II)I"⟩, 21)]
theorem lw_r2 : ∀ q ∈ lw_privs_2, lw_okq q := List.forall_mem_cons.mpr ⟨lw_p16, List.forall_mem_cons.mpr ⟨lw_p17, List.forall_mem_cons.mpr ⟨lw_p18, List.forall_mem_cons.mpr ⟨lw_p19, List.forall_mem_cons.mpr ⟨lw_p20, List.forall_mem_cons.mpr ⟨lw_p21, List.forall_mem_cons.mpr ⟨lw_p22, List.forall_mem_cons.mpr ⟨lw_p23, List.forall_mem_cons.mpr ⟨lw_p24, List.forall_mem_cons.mpr ⟨lw_p25, List.forall_mem_cons.mpr ⟨lw_p26, List.forall_mem_cons.mpr ⟨lw_p27, List.forall_mem_cons.mpr ⟨lw_p28, List.forall_mem_cons.mpr ⟨lw_p29, List.forall_mem_cons.mpr ⟨lw_p30, List.forall_mem_cons.mpr ⟨lw_p31, fun _ h => absurd h List.not_mem_nil⟩⟩⟩⟩⟩⟩⟩⟩⟩⟩⟩⟩⟩⟩⟩⟩
theorem lw_p32 : lw_okq (⟨"QuakeRehearsalModel", "shakes", "(II)Z"⟩, 21) := ⟨⟨by decide +kernel, by decide +kernel⟩, List.mem_of_getElem? (i := 1063) (by decide +kernel), List.mem_of_getElem? (i := 1240) (by decide +kernel), List.mem_of_getElem? (i := 1241) (by decide +kernel)⟩
theorem lw_p33 : lw_okq (⟨"QuakeRehearsalModel", "swings", "(III)Z"⟩, 21) := ⟨⟨by decide +kernel, by decide +kernel⟩, List.mem_of_getElem? (i := 1063) (by decide +kernel), List.mem_of_getElem? (i := 1244) (by decide +kernel), List.mem_of_getElem? (i := 1245) (by decide +kernel)⟩
theorem lw_p34 : lw_okq (⟨"QuakeRehearsalModel", "marks", "(IIZ)I"⟩, 21) := ⟨⟨by decide +kernel, by decide +kernel⟩, List.mem_of_getElem? (i := 1063) (by decide +kernel), List.mem_of_getElem? (i := 1248) (by decide +kernel), List.mem_of_getElem? (i := 1249) (by decide +kernel)⟩
theorem lw_p35 : lw_okq (⟨"QuakeRehearsalModel", "doAdd", "(I)I"⟩, 21) := ⟨⟨by decide +kernel, by decide +kernel⟩, List.mem_of_getElem? (i := 1063) (by decide +kernel), List.mem_of_getElem? (i := 1257) (by decide +kernel), List.mem_of_getElem? (i := 1258) (by decide +kernel)⟩
theorem lw_p36 : lw_okq (⟨"QuakeRehearsalModel", "doPerform", "()I"⟩, 21) := ⟨⟨by decide +kernel, by decide +kernel⟩, List.mem_of_getElem? (i := 1063) (by decide +kernel), List.mem_of_getElem? (i := 1265) (by decide +kernel), List.mem_of_getElem? (i := 1266) (by decide +kernel)⟩
theorem lw_p37 : lw_okq (⟨"QuakeRehearsalModel", "kindMany", "(I)I"⟩, 21) := ⟨⟨by decide +kernel, by decide +kernel⟩, List.mem_of_getElem? (i := 1063) (by decide +kernel), List.mem_of_getElem? (i := 1269) (by decide +kernel), List.mem_of_getElem? (i := 1270) (by decide +kernel)⟩
theorem lw_p38 : lw_okq (⟨"QuakeRehearsalModel", "doQuiet", "()I"⟩, 21) := ⟨⟨by decide +kernel, by decide +kernel⟩, List.mem_of_getElem? (i := 1063) (by decide +kernel), List.mem_of_getElem? (i := 1277) (by decide +kernel), List.mem_of_getElem? (i := 1278) (by decide +kernel)⟩
theorem lw_p39 : lw_okq (⟨"QuakeRehearsalModel", "would", "(IZ)I"⟩, 21) := ⟨⟨by decide +kernel, by decide +kernel⟩, List.mem_of_getElem? (i := 1063) (by decide +kernel), List.mem_of_getElem? (i := 1297) (by decide +kernel), List.mem_of_getElem? (i := 1298) (by decide +kernel)⟩
theorem lw_p40 : lw_okq (⟨"QuakeRehearsalModel", "thinks", "()V"⟩, 21) := ⟨⟨by decide +kernel, by decide +kernel⟩, List.mem_of_getElem? (i := 1063) (by decide +kernel), List.mem_of_getElem? (i := 1301) (by decide +kernel), List.mem_of_getElem? (i := 1302) (by decide +kernel)⟩
theorem lw_p41 : lw_okq (⟨"QuakeRehearsalModel", "forgets", "()V"⟩, 21) := ⟨⟨by decide +kernel, by decide +kernel⟩, List.mem_of_getElem? (i := 1063) (by decide +kernel), List.mem_of_getElem? (i := 1305) (by decide +kernel), List.mem_of_getElem? (i := 1306) (by decide +kernel)⟩
theorem lw_p42 : lw_okq (⟨"QuakeRehearsalModel", "placed", "(II)I"⟩, 21) := ⟨⟨by decide +kernel, by decide +kernel⟩, List.mem_of_getElem? (i := 1063) (by decide +kernel), List.mem_of_getElem? (i := 1337) (by decide +kernel), List.mem_of_getElem? (i := 1338) (by decide +kernel)⟩
theorem lw_p43 : lw_okq (⟨"QuakeRehearsalModel", "ahead", "(III)I"⟩, 21) := ⟨⟨by decide +kernel, by decide +kernel⟩, List.mem_of_getElem? (i := 1063) (by decide +kernel), List.mem_of_getElem? (i := 1341) (by decide +kernel), List.mem_of_getElem? (i := 1342) (by decide +kernel)⟩
theorem lw_p44 : lw_okq (⟨"QuakeRehearsalModel", "says", "(C)V"⟩, 21) := ⟨⟨by decide +kernel, by decide +kernel⟩, List.mem_of_getElem? (i := 1063) (by decide +kernel), List.mem_of_getElem? (i := 1363) (by decide +kernel), List.mem_of_getElem? (i := 1364) (by decide +kernel)⟩
theorem lw_p45 : lw_okq (⟨"QuakeRehearsalModel", "saysNumber", "(I)V"⟩, 21) := ⟨⟨by decide +kernel, by decide +kernel⟩, List.mem_of_getElem? (i := 1063) (by decide +kernel), List.mem_of_getElem? (i := 1367) (by decide +kernel), List.mem_of_getElem? (i := 1368) (by decide +kernel)⟩
theorem lw_p46 : lw_okq (⟨"QuakeRehearsalModel", "saysValue", "(I)V"⟩, 21) := ⟨⟨by decide +kernel, by decide +kernel⟩, List.mem_of_getElem? (i := 1063) (by decide +kernel), List.mem_of_getElem? (i := 1371) (by decide +kernel), List.mem_of_getElem? (i := 1372) (by decide +kernel)⟩
theorem lw_p47 : lw_okq (⟨"QuakeRehearsalModel", "readOrder", "()V"⟩, 21) := ⟨⟨by decide +kernel, by decide +kernel⟩, List.mem_of_getElem? (i := 1063) (by decide +kernel), List.mem_of_getElem? (i := 1391) (by decide +kernel), List.mem_of_getElem? (i := 1392) (by decide +kernel)⟩
def lw_privs_3 : List (MethodName × Nat) := [(⟨"QuakeRehearsalModel", "shakes", "(II)Z"⟩, 21), (⟨"QuakeRehearsalModel", "swings", "(III)Z"⟩, 21), (⟨"QuakeRehearsalModel", "marks", "(IIZ)I"⟩, 21), (⟨"QuakeRehearsalModel", "doAdd", "(I)I"⟩, 21), (⟨"QuakeRehearsalModel", "doPerform", "()I"⟩, 21), (⟨"QuakeRehearsalModel", "kindMany", "(I)I"⟩, 21), (⟨"QuakeRehearsalModel", "doQuiet", "()I"⟩, 21), (⟨"QuakeRehearsalModel", "would", "(IZ)I"⟩, 21), (⟨"QuakeRehearsalModel", "thinks", "()V"⟩, 21), (⟨"QuakeRehearsalModel", "forgets", "()V"⟩, 21), (⟨"QuakeRehearsalModel", "placed", "(II)I"⟩, 21), (⟨"QuakeRehearsalModel", "ahead", "(III)I"⟩, 21), (⟨"QuakeRehearsalModel", "says", "(C)V"⟩, 21), (⟨"QuakeRehearsalModel", "saysNumber", "(I)V"⟩, 21), (⟨"QuakeRehearsalModel", "saysValue", "(I)V"⟩, 21), (⟨"QuakeRehearsalModel", "readOrder", "()V"⟩, 21)]
theorem lw_r3 : ∀ q ∈ lw_privs_3, lw_okq q := List.forall_mem_cons.mpr ⟨lw_p32, List.forall_mem_cons.mpr ⟨lw_p33, List.forall_mem_cons.mpr ⟨lw_p34, List.forall_mem_cons.mpr ⟨lw_p35, List.forall_mem_cons.mpr ⟨lw_p36, List.forall_mem_cons.mpr ⟨lw_p37, List.forall_mem_cons.mpr ⟨lw_p38, List.forall_mem_cons.mpr ⟨lw_p39, List.forall_mem_cons.mpr ⟨lw_p40, List.forall_mem_cons.mpr ⟨lw_p41, List.forall_mem_cons.mpr ⟨lw_p42, List.forall_mem_cons.mpr ⟨lw_p43, List.forall_mem_cons.mpr ⟨lw_p44, List.forall_mem_cons.mpr ⟨lw_p45, List.forall_mem_cons.mpr ⟨lw_p46, List.forall_mem_cons.mpr ⟨lw_p47, fun _ h => absurd h List.not_mem_nil⟩⟩⟩⟩⟩⟩⟩⟩⟩⟩⟩⟩⟩⟩⟩⟩
theorem lw_p48 : lw_okq (⟨"QuakeRehearsalModel", "word", "()I"⟩, 21) := ⟨⟨by decide +kernel, by decide +kernel⟩, List.mem_of_getElem? (i := 1063) (by decide +kernel), List.mem_of_getElem? (i := 1395) (by decide +kernel), List.mem_of_getElem? (i := 1396) (by decide +kernel)⟩
theorem lw_p49 : lw_okq (⟨"QuakeRehearsalModel", "common", "(Ljava/lang/String;)I"⟩, 21) := ⟨⟨by decide +kernel, by decide +kernel⟩, List.mem_of_getElem? (i := 1063) (by decide +kernel), List.mem_of_getElem? (i := 1674) (by decide +kernel), List.mem_of_getElem? (i := 1675) (by decide +kernel)⟩
theorem lw_p50 : lw_okq (⟨"QuakeRehearsalModel", "skip", "(Ljava/lang/String;)V"⟩, 21) := ⟨⟨by decide +kernel, by decide +kernel⟩, List.mem_of_getElem? (i := 1063) (by decide +kernel), List.mem_of_getElem? (i := 1678) (by decide +kernel), List.mem_of_getElem? (i := 1679) (by decide +kernel)⟩
theorem lw_p51 : lw_okq (⟨"QuakeRehearsalModel", "sign", "(CC)I"⟩, 21) := ⟨⟨by decide +kernel, by decide +kernel⟩, List.mem_of_getElem? (i := 1063) (by decide +kernel), List.mem_of_getElem? (i := 1682) (by decide +kernel), List.mem_of_getElem? (i := 1683) (by decide +kernel)⟩
theorem lw_p52 : lw_okq (⟨"QuakeRehearsalModel", "isHere", "(CC)Z"⟩, 21) := ⟨⟨by decide +kernel, by decide +kernel⟩, List.mem_of_getElem? (i := 1063) (by decide +kernel), List.mem_of_getElem? (i := 1686) (by decide +kernel), List.mem_of_getElem? (i := 1687) (by decide +kernel)⟩
theorem lw_p53 : lw_okq (⟨"QuakeRehearsalModel", "number", "()I"⟩, 21) := ⟨⟨by decide +kernel, by decide +kernel⟩, List.mem_of_getElem? (i := 1063) (by decide +kernel), List.mem_of_getElem? (i := 1691) (by decide +kernel), List.mem_of_getElem? (i := 1692) (by decide +kernel)⟩
theorem lw_p54 : lw_okq (⟨"QuakeRehearsalModel", "digit", "()I"⟩, 21) := ⟨⟨by decide +kernel, by decide +kernel⟩, List.mem_of_getElem? (i := 1063) (by decide +kernel), List.mem_of_getElem? (i := 1695) (by decide +kernel), List.mem_of_getElem? (i := 1696) (by decide +kernel)⟩
theorem lw_p55 : lw_okq (⟨"QuakeRehearsalModel", "does", "(I)V"⟩, 21) := ⟨⟨by decide +kernel, by decide +kernel⟩, List.mem_of_getElem? (i := 1063) (by decide +kernel), List.mem_of_getElem? (i := 1699) (by decide +kernel), List.mem_of_getElem? (i := 1700) (by decide +kernel)⟩
theorem lw_p56 : lw_okq (⟨"QuakeRehearsalModel", "brokenMany", "()I"⟩, 21) := ⟨⟨by decide +kernel, by decide +kernel⟩, List.mem_of_getElem? (i := 1063) (by decide +kernel), List.mem_of_getElem? (i := 1711) (by decide +kernel), List.mem_of_getElem? (i := 1712) (by decide +kernel)⟩
def lw_privs_4 : List (MethodName × Nat) := [(⟨"QuakeRehearsalModel", "word", "()I"⟩, 21), (⟨"QuakeRehearsalModel", "common", "(Ljava/lang/String;)I"⟩, 21), (⟨"QuakeRehearsalModel", "skip", "(Ljava/lang/String;)V"⟩, 21), (⟨"QuakeRehearsalModel", "sign", "(CC)I"⟩, 21), (⟨"QuakeRehearsalModel", "isHere", "(CC)Z"⟩, 21), (⟨"QuakeRehearsalModel", "number", "()I"⟩, 21), (⟨"QuakeRehearsalModel", "digit", "()I"⟩, 21), (⟨"QuakeRehearsalModel", "does", "(I)V"⟩, 21), (⟨"QuakeRehearsalModel", "brokenMany", "()I"⟩, 21)]
theorem lw_r4 : ∀ q ∈ lw_privs_4, lw_okq q := List.forall_mem_cons.mpr ⟨lw_p48, List.forall_mem_cons.mpr ⟨lw_p49, List.forall_mem_cons.mpr ⟨lw_p50, List.forall_mem_cons.mpr ⟨lw_p51, List.forall_mem_cons.mpr ⟨lw_p52, List.forall_mem_cons.mpr ⟨lw_p53, List.forall_mem_cons.mpr ⟨lw_p54, List.forall_mem_cons.mpr ⟨lw_p55, List.forall_mem_cons.mpr ⟨lw_p56, fun _ h => absurd h List.not_mem_nil⟩⟩⟩⟩⟩⟩⟩⟩⟩
def lw_privs : List (MethodName × Nat) := lw_privs_1 ++ (lw_privs_2 ++ (lw_privs_3 ++ (lw_privs_4)))
def lw_tbl : List Cond := k2_sels lw_privs ++ tables_1
theorem lw_privs_ok : ∀ q ∈ lw_privs, lw_okq q := by
  show ∀ q ∈ lw_privs_1 ++ (lw_privs_2 ++ (lw_privs_3 ++ (lw_privs_4))), lw_okq q
  exact List.forall_mem_append.mpr ⟨lw_r1, List.forall_mem_append.mpr ⟨lw_r2, List.forall_mem_append.mpr ⟨lw_r3, lw_r4⟩⟩⟩
/-- the streams that the claim lets the run draw from -/
abbrev lw_cs : List Choice := [Jvm.Choice.named "NaN.bits"]
theorem lw_bits : nanBits ∈ lw_cs := by first | decide | exact List.mem_cons_self | simp [lw_cs, nanBits]
-- ===== end of PART A; then your names; then what follows =====
def RX0 : String := "QuakeRehearsal$Hall"
def TX0 : u_T := fun k => match k with
  | 0 => ("QuakeRehearsal$Hall", "props", "[LQuakeRehearsal$Prop;", true)
  | 1 => ("QuakeRehearsal$Hall", "nobody", "LQuakeRehearsal$Prop;", true)
  | 2 => ("QuakeRehearsal$Hall", "propCount", "I", false)
  | 3 => ("QuakeRehearsal$Hall", "planned", "[I", true)
  | 4 => ("QuakeRehearsal$Hall", "plannedCount", "I", false)
  | 5 => ("QuakeRehearsal$Hall", "strength", "I", false)
  | 6 => ("QuakeRehearsal$Hall", "shocks", "I", false)
  | 7 => ("QuakeRehearsal$Hall", "encores", "I", false)
  | 8 => ("QuakeRehearsal$Hall", "marks", "I", false)
  | 9 => ("QuakeRehearsal$Hall", "breakages", "I", false)
  | 10 => ("QuakeRehearsal$Hall", "hasCat", "[Z", true)
  | 11 => ("QuakeRehearsal$Hall", "reach", "[I", true)
  | _ => ("QuakeRehearsal$Hall", "hasBreakage", "[Z", true)
def tyX0 : Nat → FieldType := fun k => match k with
  | 0 => .array (.object "QuakeRehearsal$Prop")
  | 1 => .object "QuakeRehearsal$Prop"
  | 2 => .int
  | 3 => .array .int
  | 4 => .int
  | 5 => .int
  | 6 => .int
  | 7 => .int
  | 8 => .int
  | 9 => .int
  | 10 => .array .boolean
  | 11 => .array .int
  | _ => .array .boolean
abbrev wsX00 : List Cond := u_ws RX0 TX0 13
theorem nmX0 : ∀ a, a < 13 → ∀ b, b < 13 → a ≠ b → (TX0 a).2.1 ≠ (TX0 b).2.1 := by decide +kernel
theorem tyX0_ok : ∀ k, k < 13 → parseFieldDescriptor (TX0 k).2.2.1 = some (tyX0 k) := by decide +kernel
abbrev cX0_init : ByteArray := prog_2_method_1_code
def yX0_init : MethodName := ⟨RX0, "<init>", "()V"⟩
abbrev cX0_propAt : ByteArray := prog_2_method_2_code
def yX0_propAt : MethodName := ⟨RX0, "propAt", "(I)LQuakeRehearsal$Prop;"⟩
abbrev cX0_plannedAt : ByteArray := prog_2_method_3_code
def yX0_plannedAt : MethodName := ⟨RX0, "plannedAt", "(I)I"⟩
abbrev cX0_copyFrom : ByteArray := prog_2_method_4_code
def yX0_copyFrom : MethodName := ⟨RX0, "copyFrom", "(LQuakeRehearsal$Hall;)V"⟩
abbrev cX0_placeProp : ByteArray := prog_2_method_5_code
def yX0_placeProp : MethodName := ⟨RX0, "placeProp", "(III)I"⟩
abbrev cX0_removeProp : ByteArray := prog_2_method_6_code
def yX0_removeProp : MethodName := ⟨RX0, "removeProp", "(I)I"⟩
abbrev cX0_plan : ByteArray := prog_2_method_7_code
def yX0_plan : MethodName := ⟨RX0, "plan", "(I)I"⟩
abbrev cX0_countOf : ByteArray := prog_2_method_8_code
def yX0_countOf : MethodName := ⟨RX0, "countOf", "(I)I"⟩
abbrev cX0_countOn : ByteArray := prog_2_method_9_code
def yX0_countOn : MethodName := ⟨RX0, "countOn", "(II)I"⟩
abbrev cX0_countBroken : ByteArray := prog_2_method_10_code
def yX0_countBroken : MethodName := ⟨RX0, "countBroken", "()I"⟩
abbrev cX0_sumOfGrades : ByteArray := prog_2_method_11_code
def yX0_sumOfGrades : MethodName := ⟨RX0, "sumOfGrades", "()I"⟩
abbrev cX0_reachFloorByFloor : ByteArray := prog_2_method_12_code
def yX0_reachFloorByFloor : MethodName := ⟨RX0, "reachFloorByFloor", "(II)I"⟩
abbrev cX0_reachAgain : ByteArray := prog_2_method_13_code
def yX0_reachAgain : MethodName := ⟨RX0, "reachAgain", "(II)I"⟩
abbrev cX0_spread : ByteArray := prog_2_method_14_code
def yX0_spread : MethodName := ⟨RX0, "spread", "(I)V"⟩
abbrev cX0_findCats : ByteArray := prog_2_method_15_code
def yX0_findCats : MethodName := ⟨RX0, "findCats", "()V"⟩
abbrev cX0_reachOn : ByteArray := prog_2_method_16_code
def yX0_reachOn : MethodName := ⟨RX0, "reachOn", "(I)I"⟩
abbrev cX0_isFrightening : ByteArray := prog_2_method_17_code
def yX0_isFrightening : MethodName := ⟨RX0, "isFrightening", "(I)Z"⟩
abbrev cX0_noteBreakage : ByteArray := prog_2_method_18_code
def yX0_noteBreakage : MethodName := ⟨RX0, "noteBreakage", "(I)V"⟩
abbrev cX0_performShock : ByteArray := prog_2_method_19_code
def yX0_performShock : MethodName := ⟨RX0, "performShock", "(I)I"⟩
abbrev cX0_shakeCups : ByteArray := prog_2_method_20_code
def yX0_shakeCups : MethodName := ⟨RX0, "shakeCups", "()V"⟩
abbrev cX0_shakeLamps : ByteArray := prog_2_method_21_code
def yX0_shakeLamps : MethodName := ⟨RX0, "shakeLamps", "(I)V"⟩
abbrev cX0_askCats : ByteArray := prog_2_method_22_code
def yX0_askCats : MethodName := ⟨RX0, "askCats", "()I"⟩
abbrev cX0_performProgramme : ByteArray := prog_2_method_23_code
def yX0_performProgramme : MethodName := ⟨RX0, "performProgramme", "()I"⟩
abbrev cX0_calm : ByteArray := prog_2_method_24_code
def yX0_calm : MethodName := ⟨RX0, "calm", "()I"⟩
abbrev cX0_breakagesPropByProp : ByteArray := prog_2_method_25_code
def yX0_breakagesPropByProp : MethodName := ⟨RX0, "breakagesPropByProp", "(I)I"⟩
abbrev cX0_isDamageRight : ByteArray := prog_2_method_26_code
def yX0_isDamageRight : MethodName := ⟨RX0, "isDamageRight", "()Z"⟩
abbrev cX0_numberInOrder : ByteArray := prog_2_method_27_code
def yX0_numberInOrder : MethodName := ⟨RX0, "numberInOrder", "(II)I"⟩
abbrev cX0_countAhead : ByteArray := prog_2_method_28_code
def yX0_countAhead : MethodName := ⟨RX0, "countAhead", "(I)I"⟩
def RX1 : String := "QuakeRehearsal$History"
def TX1 : u_T := fun k => match k with
  | 0 => ("QuakeRehearsal$History", "kept", "[LQuakeRehearsal$Hall;", true)
  | 1 => ("QuakeRehearsal$History", "next", "I", false)
  | _ => ("QuakeRehearsal$History", "depth", "I", false)
def tyX1 : Nat → FieldType := fun k => match k with
  | 0 => .array (.object "QuakeRehearsal$Hall")
  | 1 => .int
  | _ => .int
abbrev wsX10 : List Cond := u_ws RX1 TX1 3
theorem nmX1 : ∀ a, a < 3 → ∀ b, b < 3 → a ≠ b → (TX1 a).2.1 ≠ (TX1 b).2.1 := by decide +kernel
theorem tyX1_ok : ∀ k, k < 3 → parseFieldDescriptor (TX1 k).2.2.1 = some (tyX1 k) := by decide +kernel
abbrev cX1_init : ByteArray := prog_3_method_1_code
def yX1_init : MethodName := ⟨RX1, "<init>", "()V"⟩
abbrev cX1_note : ByteArray := prog_3_method_2_code
def yX1_note : MethodName := ⟨RX1, "note", "(LQuakeRehearsal$Hall;)V"⟩
abbrev cX1_copyNoteTo : ByteArray := prog_3_method_3_code
def yX1_copyNoteTo : MethodName := ⟨RX1, "copyNoteTo", "(LQuakeRehearsal$Hall;)V"⟩
abbrev cX1_keepNote : ByteArray := prog_3_method_4_code
def yX1_keepNote : MethodName := ⟨RX1, "keepNote", "()V"⟩
abbrev cX1_stepBack : ByteArray := prog_3_method_5_code
def yX1_stepBack : MethodName := ⟨RX1, "stepBack", "(LQuakeRehearsal$Hall;)V"⟩
def RX2 : String := "QuakeRehearsal$Line"
def TX2 : u_T := fun k => match k with
  | 0 => ("QuakeRehearsal$Line", "signs", "[C", true)
  | _ => ("QuakeRehearsal$Line", "length", "I", false)
def tyX2 : Nat → FieldType := fun k => match k with
  | 0 => .array .char
  | _ => .int
abbrev wsX20 : List Cond := u_ws RX2 TX2 2
theorem nmX2 : ∀ a, a < 2 → ∀ b, b < 2 → a ≠ b → (TX2 a).2.1 ≠ (TX2 b).2.1 := by decide +kernel
theorem tyX2_ok : ∀ k, k < 2 → parseFieldDescriptor (TX2 k).2.2.1 = some (tyX2 k) := by decide +kernel
abbrev cX2_init : ByteArray := prog_4_method_1_code
def yX2_init : MethodName := ⟨RX2, "<init>", "()V"⟩
abbrev cX2_signAt : ByteArray := prog_4_method_2_code
def yX2_signAt : MethodName := ⟨RX2, "signAt", "(I)C"⟩
abbrev cX2_put : ByteArray := prog_4_method_3_code
def yX2_put : MethodName := ⟨RX2, "put", "(C)V"⟩
abbrev cX2_putNumber : ByteArray := prog_4_method_4_code
def yX2_putNumber : MethodName := ⟨RX2, "putNumber", "(I)V"⟩
abbrev cX2_writeProp : ByteArray := prog_4_method_5_code
def yX2_writeProp : MethodName := ⟨RX2, "writeProp", "(LQuakeRehearsal$Prop;)V"⟩
abbrev cX2_writeProgramme : ByteArray := prog_4_method_6_code
def yX2_writeProgramme : MethodName := ⟨RX2, "writeProgramme", "(LQuakeRehearsal$Hall;)V"⟩
def RX3 : String := "QuakeRehearsal$Prop"
def TX3 : u_T := fun k => match k with
  | 0 => ("QuakeRehearsal$Prop", "kind", "I", false)
  | 1 => ("QuakeRehearsal$Prop", "floor", "I", false)
  | 2 => ("QuakeRehearsal$Prop", "measure", "I", false)
  | 3 => ("QuakeRehearsal$Prop", "damage", "I", false)
  | 4 => ("QuakeRehearsal$Prop", "broken", "Z", false)
  | 5 => ("QuakeRehearsal$Prop", "cued", "I", false)
  | _ => ("QuakeRehearsal$Prop", "tally", "I", false)
def tyX3 : Nat → FieldType := fun k => match k with
  | 0 => .int
  | 1 => .int
  | 2 => .int
  | 3 => .int
  | 4 => .boolean
  | 5 => .int
  | _ => .int
abbrev wsX30 : List Cond := u_ws RX3 TX3 7
theorem nmX3 : ∀ a, a < 7 → ∀ b, b < 7 → a ≠ b → (TX3 a).2.1 ≠ (TX3 b).2.1 := by decide +kernel
theorem tyX3_ok : ∀ k, k < 7 → parseFieldDescriptor (TX3 k).2.2.1 = some (tyX3 k) := by decide +kernel
abbrev cX3_init : ByteArray := prog_5_method_1_code
def yX3_init : MethodName := ⟨RX3, "<init>", "()V"⟩
abbrev cX3_begin : ByteArray := prog_5_method_2_code
def yX3_begin : MethodName := ⟨RX3, "begin", "(III)V"⟩
abbrev cX3_copyFrom : ByteArray := prog_5_method_3_code
def yX3_copyFrom : MethodName := ⟨RX3, "copyFrom", "(LQuakeRehearsal$Prop;)V"⟩
abbrev cX3_shakeCup : ByteArray := prog_5_method_4_code
def yX3_shakeCup : MethodName := ⟨RX3, "shakeCup", "(I)Z"⟩
abbrev cX3_shakeLamp : ByteArray := prog_5_method_5_code
def yX3_shakeLamp : MethodName := ⟨RX3, "shakeLamp", "(II)Z"⟩
abbrev cX3_swingAfter : ByteArray := prog_5_method_6_code
def yX3_swingAfter : MethodName := ⟨RX3, "swingAfter", "(II)I"⟩
abbrev cX3_judge : ByteArray := prog_5_method_7_code
def yX3_judge : MethodName := ⟨RX3, "judge", "(IZ)I"⟩
abbrev cX3_wouldBreakBy : ByteArray := prog_5_method_8_code
def yX3_wouldBreakBy : MethodName := ⟨RX3, "wouldBreakBy", "(II)Z"⟩
abbrev cX3_isDamageRight : ByteArray := prog_5_method_9_code
def yX3_isDamageRight : MethodName := ⟨RX3, "isDamageRight", "()Z"⟩
abbrev cX3_orderTo : ByteArray := prog_5_method_10_code
def yX3_orderTo : MethodName := ⟨RX3, "orderTo", "(LQuakeRehearsal$Prop;)I"⟩
def RX4 : String := "QuakeRehearsal$Script"
def TX4 : u_T := fun k => match k with
  | 0 => ("QuakeRehearsal$Script", "signs", "[C", true)
  | 1 => ("QuakeRehearsal$Script", "length", "I", false)
  | 2 => ("QuakeRehearsal$Script", "words", "[I", true)
  | 3 => ("QuakeRehearsal$Script", "firsts", "[I", true)
  | 4 => ("QuakeRehearsal$Script", "seconds", "[I", true)
  | 5 => ("QuakeRehearsal$Script", "orderCount", "I", false)
  | _ => ("QuakeRehearsal$Script", "offset", "I", false)
def tyX4 : Nat → FieldType := fun k => match k with
  | 0 => .array .char
  | 1 => .int
  | 2 => .array .int
  | 3 => .array .int
  | 4 => .array .int
  | 5 => .int
  | _ => .int
abbrev wsX40 : List Cond := u_ws RX4 TX4 7
theorem nmX4 : ∀ a, a < 7 → ∀ b, b < 7 → a ≠ b → (TX4 a).2.1 ≠ (TX4 b).2.1 := by decide +kernel
theorem tyX4_ok : ∀ k, k < 7 → parseFieldDescriptor (TX4 k).2.2.1 = some (tyX4 k) := by decide +kernel
abbrev cX4_init : ByteArray := prog_6_method_1_code
def yX4_init : MethodName := ⟨RX4, "<init>", "()V"⟩
abbrev cX4_put : ByteArray := prog_6_method_2_code
def yX4_put : MethodName := ⟨RX4, "put", "(C)V"⟩
abbrev cX4_read : ByteArray := prog_6_method_3_code
def yX4_read : MethodName := ⟨RX4, "read", "()I"⟩
abbrev cX4_readOrder : ByteArray := prog_6_method_4_code
def yX4_readOrder : MethodName := ⟨RX4, "readOrder", "(I)Z"⟩
abbrev cX4_readWord : ByteArray := prog_6_method_5_code
def yX4_readWord : MethodName := ⟨RX4, "readWord", "()I"⟩
abbrev cX4_countAlike : ByteArray := prog_6_method_6_code
def yX4_countAlike : MethodName := ⟨RX4, "countAlike", "(Ljava/lang/String;)I"⟩
abbrev cX4_readNumber : ByteArray := prog_6_method_7_code
def yX4_readNumber : MethodName := ⟨RX4, "readNumber", "(I)I"⟩
abbrev cX4_readDigit : ByteArray := prog_6_method_8_code
def yX4_readDigit : MethodName := ⟨RX4, "readDigit", "()I"⟩
abbrev cX4_readSign : ByteArray := prog_6_method_9_code
def yX4_readSign : MethodName := ⟨RX4, "readSign", "(C)Z"⟩
abbrev cX4_isNext : ByteArray := prog_6_method_10_code
def yX4_isNext : MethodName := ⟨RX4, "isNext", "(IC)Z"⟩
abbrev cX4_wordAt : ByteArray := prog_6_method_11_code
def yX4_wordAt : MethodName := ⟨RX4, "wordAt", "(I)I"⟩
abbrev cX4_firstAt : ByteArray := prog_6_method_12_code
def yX4_firstAt : MethodName := ⟨RX4, "firstAt", "(I)I"⟩
abbrev cX4_secondAt : ByteArray := prog_6_method_13_code
def yX4_secondAt : MethodName := ⟨RX4, "secondAt", "(I)I"⟩
abbrev cX4_nameOf : ByteArray := prog_6_method_14_code
def yX4_nameOf : MethodName := ⟨RX4, "nameOf", "(I)Ljava/lang/String;"⟩
def RX5 : String := "QuakeRehearsal"
def TX5 : u_T := fun k => match k with
  | 0 => ("QuakeRehearsal", "hall", "LQuakeRehearsal$Hall;", true)
  | 1 => ("QuakeRehearsal", "thought", "LQuakeRehearsal$Hall;", true)
  | 2 => ("QuakeRehearsal", "snapshot", "LQuakeRehearsal$Hall;", true)
  | 3 => ("QuakeRehearsal", "history", "LQuakeRehearsal$History;", true)
  | 4 => ("QuakeRehearsal", "script", "LQuakeRehearsal$Script;", true)
  | 5 => ("QuakeRehearsal", "written", "LQuakeRehearsal$Line;", true)
  | 6 => ("QuakeRehearsal", "hasSnapshot", "Z", false)
  | 7 => ("QuakeRehearsal", "errorPlace", "I", false)
  | 8 => ("QuakeRehearsal", "reason", "I", false)
  | 9 => ("QuakeRehearsal", "detail", "I", false)
  | _ => ("QuakeRehearsal", "answer", "I", false)
def tyX5 : Nat → FieldType := fun k => match k with
  | 0 => .object "QuakeRehearsal$Hall"
  | 1 => .object "QuakeRehearsal$Hall"
  | 2 => .object "QuakeRehearsal$Hall"
  | 3 => .object "QuakeRehearsal$History"
  | 4 => .object "QuakeRehearsal$Script"
  | 5 => .object "QuakeRehearsal$Line"
  | 6 => .boolean
  | 7 => .int
  | 8 => .int
  | 9 => .int
  | _ => .int
abbrev wsX50 : List Cond := u_ws RX5 TX5 11
theorem nmX5 : ∀ a, a < 11 → ∀ b, b < 11 → a ≠ b → (TX5 a).2.1 ≠ (TX5 b).2.1 := by decide +kernel
theorem tyX5_ok : ∀ k, k < 11 → parseFieldDescriptor (TX5 k).2.2.1 = some (tyX5 k) := by decide +kernel
abbrev cX5_init : ByteArray := prog_1_method_1_code
def yX5_init : MethodName := ⟨RX5, "<init>", "()V"⟩
abbrev cX5_cup : ByteArray := prog_1_method_2_code
def yX5_cup : MethodName := ⟨RX5, "cup", "(II)I"⟩
abbrev cX5_lamp : ByteArray := prog_1_method_3_code
def yX5_lamp : MethodName := ⟨RX5, "lamp", "(II)I"⟩
abbrev cX5_cat : ByteArray := prog_1_method_4_code
def yX5_cat : MethodName := ⟨RX5, "cat", "(II)I"⟩
abbrev cX5_take : ByteArray := prog_1_method_5_code
def yX5_take : MethodName := ⟨RX5, "take", "(I)I"⟩
abbrev cX5_cue : ByteArray := prog_1_method_6_code
def yX5_cue : MethodName := ⟨RX5, "cue", "(II)I"⟩
abbrev cX5_set : ByteArray := prog_1_method_7_code
def yX5_set : MethodName := ⟨RX5, "set", "(I)I"⟩
abbrev cX5_shock : ByteArray := prog_1_method_8_code
def yX5_shock : MethodName := ⟨RX5, "shock", "()I"⟩
abbrev cX5_add : ByteArray := prog_1_method_9_code
def yX5_add : MethodName := ⟨RX5, "add", "(I)I"⟩
abbrev cX5_perform : ByteArray := prog_1_method_10_code
def yX5_perform : MethodName := ⟨RX5, "perform", "()I"⟩
abbrev cX5_quiet : ByteArray := prog_1_method_11_code
def yX5_quiet : MethodName := ⟨RX5, "quiet", "()I"⟩
abbrev cX5_propOf : ByteArray := prog_1_method_12_code
def yX5_propOf : MethodName := ⟨RX5, "propOf", "(II)I"⟩
abbrev cX5_programme : ByteArray := prog_1_method_13_code
def yX5_programme : MethodName := ⟨RX5, "programme", "(I)I"⟩
abbrev cX5_on : ByteArray := prog_1_method_14_code
def yX5_on : MethodName := ⟨RX5, "on", "(IIZ)I"⟩
abbrev cX5_wouldMark : ByteArray := prog_1_method_15_code
def yX5_wouldMark : MethodName := ⟨RX5, "wouldMark", "(I)I"⟩
abbrev cX5_wouldBreak : ByteArray := prog_1_method_16_code
def yX5_wouldBreak : MethodName := ⟨RX5, "wouldBreak", "(IZ)I"⟩
abbrev cX5_programmeBreaks : ByteArray := prog_1_method_17_code
def yX5_programmeBreaks : MethodName := ⟨RX5, "programmeBreaks", "()I"⟩
abbrev cX5_best : ByteArray := prog_1_method_18_code
def yX5_best : MethodName := ⟨RX5, "best", "()I"⟩
abbrev cX5_leastBreaking : ByteArray := prog_1_method_19_code
def yX5_leastBreaking : MethodName := ⟨RX5, "leastBreaking", "()I"⟩
abbrev cX5_shocksFor : ByteArray := prog_1_method_20_code
def yX5_shocksFor : MethodName := ⟨RX5, "shocksFor", "(I)I"⟩
abbrev cX5_isBroken : ByteArray := prog_1_method_21_code
def yX5_isBroken : MethodName := ⟨RX5, "isBroken", "(I)Z"⟩
abbrev cX5_cupAt : ByteArray := prog_1_method_22_code
def yX5_cupAt : MethodName := ⟨RX5, "cupAt", "(I)I"⟩
abbrev cX5_lampAt : ByteArray := prog_1_method_23_code
def yX5_lampAt : MethodName := ⟨RX5, "lampAt", "(I)I"⟩
abbrev cX5_catAt : ByteArray := prog_1_method_24_code
def yX5_catAt : MethodName := ⟨RX5, "catAt", "(I)I"⟩
abbrev cX5_onFloor : ByteArray := prog_1_method_25_code
def yX5_onFloor : MethodName := ⟨RX5, "onFloor", "(II)I"⟩
abbrev cX5_line : ByteArray := prog_1_method_26_code
def yX5_line : MethodName := ⟨RX5, "line", "(I)I"⟩
abbrev cX5_programmeLine : ByteArray := prog_1_method_27_code
def yX5_programmeLine : MethodName := ⟨RX5, "programmeLine", "()I"⟩
abbrev cX5_character : ByteArray := prog_1_method_28_code
def yX5_character : MethodName := ⟨RX5, "character", "(I)C"⟩
abbrev cX5_append : ByteArray := prog_1_method_29_code
def yX5_append : MethodName := ⟨RX5, "append", "(C)I"⟩
abbrev cX5_run : ByteArray := prog_1_method_30_code
def yX5_run : MethodName := ⟨RX5, "run", "()I"⟩
abbrev cX5_errorPosition : ByteArray := prog_1_method_31_code
def yX5_errorPosition : MethodName := ⟨RX5, "errorPosition", "()I"⟩
abbrev cX5_refusal : ByteArray := prog_1_method_32_code
def yX5_refusal : MethodName := ⟨RX5, "refusal", "(Z)I"⟩
abbrev cX5_account : ByteArray := prog_1_method_33_code
def yX5_account : MethodName := ⟨RX5, "account", "(I)I"⟩
abbrev cX5_isWell : ByteArray := prog_1_method_34_code
def yX5_isWell : MethodName := ⟨RX5, "isWell", "()Z"⟩
abbrev cX5_meanGrade : ByteArray := prog_1_method_35_code
def yX5_meanGrade : MethodName := ⟨RX5, "meanGrade", "()D"⟩
abbrev cX5_brokenShare : ByteArray := prog_1_method_36_code
def yX5_brokenShare : MethodName := ⟨RX5, "brokenShare", "()F"⟩
abbrev cX5_undo : ByteArray := prog_1_method_37_code
def yX5_undo : MethodName := ⟨RX5, "undo", "()I"⟩
abbrev cX5_save : ByteArray := prog_1_method_38_code
def yX5_save : MethodName := ⟨RX5, "save", "()I"⟩
abbrev cX5_restore : ByteArray := prog_1_method_39_code
def yX5_restore : MethodName := ⟨RX5, "restore", "()I"⟩
abbrev cX5_isFloor : ByteArray := prog_1_method_40_code
def yX5_isFloor : MethodName := ⟨RX5, "isFloor", "(I)Z"⟩
abbrev cX5_isStrength : ByteArray := prog_1_method_41_code
def yX5_isStrength : MethodName := ⟨RX5, "isStrength", "(I)Z"⟩
abbrev cX5_requireStrength : ByteArray := prog_1_method_42_code
def yX5_requireStrength : MethodName := ⟨RX5, "requireStrength", "(I)V"⟩
abbrev cX5_propNumbered : ByteArray := prog_1_method_43_code
def yX5_propNumbered : MethodName := ⟨RX5, "propNumbered", "(I)LQuakeRehearsal$Prop;"⟩
abbrev cX5_numberInOrder : ByteArray := prog_1_method_44_code
def yX5_numberInOrder : MethodName := ⟨RX5, "numberInOrder", "(II)I"⟩
abbrev cX5_placed : ByteArray := prog_1_method_45_code
def yX5_placed : MethodName := ⟨RX5, "placed", "(III)I"⟩
abbrev cX5_strengthTold : ByteArray := prog_1_method_46_code
def yX5_strengthTold : MethodName := ⟨RX5, "strengthTold", "(II)I"⟩
abbrev cX5_change : ByteArray := prog_1_method_47_code
def yX5_change : MethodName := ⟨RX5, "change", "(III)I"⟩
abbrev cX5_tryOrder : ByteArray := prog_1_method_48_code
def yX5_tryOrder : MethodName := ⟨RX5, "tryOrder", "(III)I"⟩
abbrev cX5_tryPlacing : ByteArray := prog_1_method_49_code
def yX5_tryPlacing : MethodName := ⟨RX5, "tryPlacing", "(III)I"⟩
abbrev cX5_tryTaking : ByteArray := prog_1_method_50_code
def yX5_tryTaking : MethodName := ⟨RX5, "tryTaking", "(I)I"⟩
abbrev cX5_tryCueing : ByteArray := prog_1_method_51_code
def yX5_tryCueing : MethodName := ⟨RX5, "tryCueing", "(II)I"⟩
abbrev cX5_trySetting : ByteArray := prog_1_method_52_code
def yX5_trySetting : MethodName := ⟨RX5, "trySetting", "(I)I"⟩
abbrev cX5_tryAdding : ByteArray := prog_1_method_53_code
def yX5_tryAdding : MethodName := ⟨RX5, "tryAdding", "(I)I"⟩
abbrev cX5_answered : ByteArray := prog_1_method_54_code
def yX5_answered : MethodName := ⟨RX5, "answered", "(I)I"⟩
abbrev cX5_refuse : ByteArray := prog_1_method_55_code
def yX5_refuse : MethodName := ⟨RX5, "refuse", "(II)I"⟩
abbrev cX5_marksInThought : ByteArray := prog_1_method_56_code
def yX5_marksInThought : MethodName := ⟨RX5, "marksInThought", "(I)I"⟩
abbrev cX5_breakagesInThought : ByteArray := prog_1_method_57_code
def yX5_breakagesInThought : MethodName := ⟨RX5, "breakagesInThought", "(I)I"⟩
abbrev cX5_isReachAlike : ByteArray := prog_1_method_58_code
def yX5_isReachAlike : MethodName := ⟨RX5, "isReachAlike", "()Z"⟩
abbrev cX5_areBreakagesAlike : ByteArray := prog_1_method_59_code
def yX5_areBreakagesAlike : MethodName := ⟨RX5, "areBreakagesAlike", "()Z"⟩
def RX6 : String := "QuakeRehearsalModel"
def TX6 : u_T := fun k => match k with
  | 0 => ("QuakeRehearsalModel", "s", "[I", true)
  | 1 => ("QuakeRehearsalModel", "before", "[I", true)
  | 2 => ("QuakeRehearsalModel", "aside", "[I", true)
  | 3 => ("QuakeRehearsalModel", "saved", "[I", true)
  | 4 => ("QuakeRehearsalModel", "isSaved", "Z", false)
  | 5 => ("QuakeRehearsalModel", "past", "[I", true)
  | 6 => ("QuakeRehearsalModel", "pastMany", "I", false)
  | 7 => ("QuakeRehearsalModel", "thrown", "I", false)
  | 8 => ("QuakeRehearsalModel", "reason", "I", false)
  | 9 => ("QuakeRehearsalModel", "detail", "I", false)
  | 10 => ("QuakeRehearsalModel", "isRefused", "Z", false)
  | 11 => ("QuakeRehearsalModel", "brokeMany", "I", false)
  | 12 => ("QuakeRehearsalModel", "line", "[C", true)
  | 13 => ("QuakeRehearsalModel", "lineMany", "I", false)
  | 14 => ("QuakeRehearsalModel", "text", "[C", true)
  | 15 => ("QuakeRehearsalModel", "length", "I", false)
  | 16 => ("QuakeRehearsalModel", "at", "I", false)
  | 17 => ("QuakeRehearsalModel", "isWrong", "Z", false)
  | 18 => ("QuakeRehearsalModel", "errorAt", "I", false)
  | 19 => ("QuakeRehearsalModel", "orders", "[I", true)
  | _ => ("QuakeRehearsalModel", "orderMany", "I", false)
def tyX6 : Nat → FieldType := fun k => match k with
  | 0 => .array .int
  | 1 => .array .int
  | 2 => .array .int
  | 3 => .array .int
  | 4 => .boolean
  | 5 => .array .int
  | 6 => .int
  | 7 => .int
  | 8 => .int
  | 9 => .int
  | 10 => .boolean
  | 11 => .int
  | 12 => .array .char
  | 13 => .int
  | 14 => .array .char
  | 15 => .int
  | 16 => .int
  | 17 => .boolean
  | 18 => .int
  | 19 => .array .int
  | _ => .int
abbrev wsX60 : List Cond := u_ws RX6 TX6 21
theorem nmX6 : ∀ a, a < 21 → ∀ b, b < 21 → a ≠ b → (TX6 a).2.1 ≠ (TX6 b).2.1 := by decide +kernel
theorem tyX6_ok : ∀ k, k < 21 → parseFieldDescriptor (TX6 k).2.2.1 = some (tyX6 k) := by decide +kernel
abbrev cX6_init : ByteArray := prog_8_method_1_code
def yX6_init : MethodName := ⟨RX6, "<init>", "()V"⟩
abbrev cX6_thrown : ByteArray := prog_8_method_2_code
def yX6_thrown : MethodName := ⟨RX6, "thrown", "()I"⟩
abbrev cX6_in : ByteArray := prog_8_method_3_code
def yX6_in : MethodName := ⟨RX6, "in", "(III)Z"⟩
abbrev cX6_keep : ByteArray := prog_8_method_4_code
def yX6_keep : MethodName := ⟨RX6, "keep", "()V"⟩
abbrev cX6_ends : ByteArray := prog_8_method_5_code
def yX6_ends : MethodName := ⟨RX6, "ends", "(I)I"⟩
abbrev cX6_fails : ByteArray := prog_8_method_6_code
def yX6_fails : MethodName := ⟨RX6, "fails", "(I)I"⟩
abbrev cX6_refuse : ByteArray := prog_8_method_7_code
def yX6_refuse : MethodName := ⟨RX6, "refuse", "(III)I"⟩
abbrev cX6_refusal : ByteArray := prog_8_method_8_code
def yX6_refusal : MethodName := ⟨RX6, "refusal", "(Z)I"⟩
abbrev cX6_isProp : ByteArray := prog_8_method_9_code
def yX6_isProp : MethodName := ⟨RX6, "isProp", "(I)Z"⟩
abbrev cX6_isFloor : ByteArray := prog_8_method_10_code
def yX6_isFloor : MethodName := ⟨RX6, "isFloor", "(I)Z"⟩
abbrev cX6_isStrength : ByteArray := prog_8_method_11_code
def yX6_isStrength : MethodName := ⟨RX6, "isStrength", "(I)Z"⟩
abbrev cX6_of : ByteArray := prog_8_method_12_code
def yX6_of : MethodName := ⟨RX6, "of", "(II)I"⟩
abbrev cX6_sets : ByteArray := prog_8_method_13_code
def yX6_sets : MethodName := ⟨RX6, "sets", "(III)V"⟩
abbrev cX6_there : ByteArray := prog_8_method_14_code
def yX6_there : MethodName := ⟨RX6, "there", "(II)I"⟩
abbrev cX6_kindMany : ByteArray := prog_8_method_15_code
def yX6_kindMany : MethodName := ⟨RX6, "kindMany", "(I)I"⟩
abbrev cX6_comes : ByteArray := prog_8_method_16_code
def yX6_comes : MethodName := ⟨RX6, "comes", "(III)I"⟩
abbrev cX6_cup : ByteArray := prog_8_method_17_code
def yX6_cup : MethodName := ⟨RX6, "cup", "(II)I"⟩
abbrev cX6_lamp : ByteArray := prog_8_method_18_code
def yX6_lamp : MethodName := ⟨RX6, "lamp", "(II)I"⟩
abbrev cX6_cat : ByteArray := prog_8_method_19_code
def yX6_cat : MethodName := ⟨RX6, "cat", "(II)I"⟩
abbrev cX6_doTake : ByteArray := prog_8_method_20_code
def yX6_doTake : MethodName := ⟨RX6, "doTake", "(I)I"⟩
abbrev cX6_take : ByteArray := prog_8_method_21_code
def yX6_take : MethodName := ⟨RX6, "take", "(I)I"⟩
abbrev cX6_doCue : ByteArray := prog_8_method_22_code
def yX6_doCue : MethodName := ⟨RX6, "doCue", "(II)I"⟩
abbrev cX6_cue : ByteArray := prog_8_method_23_code
def yX6_cue : MethodName := ⟨RX6, "cue", "(II)I"⟩
abbrev cX6_doSet : ByteArray := prog_8_method_24_code
def yX6_doSet : MethodName := ⟨RX6, "doSet", "(I)I"⟩
abbrev cX6_set : ByteArray := prog_8_method_25_code
def yX6_set : MethodName := ⟨RX6, "set", "(I)I"⟩
abbrev cX6_strengthOn : ByteArray := prog_8_method_26_code
def yX6_strengthOn : MethodName := ⟨RX6, "strengthOn", "(II)I"⟩
abbrev cX6_shakes : ByteArray := prog_8_method_27_code
def yX6_shakes : MethodName := ⟨RX6, "shakes", "(II)Z"⟩
abbrev cX6_swings : ByteArray := prog_8_method_28_code
def yX6_swings : MethodName := ⟨RX6, "swings", "(III)Z"⟩
abbrev cX6_marks : ByteArray := prog_8_method_29_code
def yX6_marks : MethodName := ⟨RX6, "marks", "(IIZ)I"⟩
abbrev cX6_shocks : ByteArray := prog_8_method_30_code
def yX6_shocks : MethodName := ⟨RX6, "shocks", "(I)I"⟩
abbrev cX6_shock : ByteArray := prog_8_method_31_code
def yX6_shock : MethodName := ⟨RX6, "shock", "()I"⟩
abbrev cX6_doAdd : ByteArray := prog_8_method_32_code
def yX6_doAdd : MethodName := ⟨RX6, "doAdd", "(I)I"⟩
abbrev cX6_add : ByteArray := prog_8_method_33_code
def yX6_add : MethodName := ⟨RX6, "add", "(I)I"⟩
abbrev cX6_doPerform : ByteArray := prog_8_method_34_code
def yX6_doPerform : MethodName := ⟨RX6, "doPerform", "()I"⟩
abbrev cX6_perform : ByteArray := prog_8_method_35_code
def yX6_perform : MethodName := ⟨RX6, "perform", "()I"⟩
abbrev cX6_doQuiet : ByteArray := prog_8_method_36_code
def yX6_doQuiet : MethodName := ⟨RX6, "doQuiet", "()I"⟩
abbrev cX6_quiet : ByteArray := prog_8_method_37_code
def yX6_quiet : MethodName := ⟨RX6, "quiet", "()I"⟩
abbrev cX6_propOf : ByteArray := prog_8_method_38_code
def yX6_propOf : MethodName := ⟨RX6, "propOf", "(II)I"⟩
abbrev cX6_programme : ByteArray := prog_8_method_39_code
def yX6_programme : MethodName := ⟨RX6, "programme", "(I)I"⟩
abbrev cX6_on : ByteArray := prog_8_method_40_code
def yX6_on : MethodName := ⟨RX6, "on", "(IIZ)I"⟩
abbrev cX6_thinks : ByteArray := prog_8_method_41_code
def yX6_thinks : MethodName := ⟨RX6, "thinks", "()V"⟩
abbrev cX6_forgets : ByteArray := prog_8_method_42_code
def yX6_forgets : MethodName := ⟨RX6, "forgets", "()V"⟩
abbrev cX6_would : ByteArray := prog_8_method_43_code
def yX6_would : MethodName := ⟨RX6, "would", "(IZ)I"⟩
abbrev cX6_wouldMark : ByteArray := prog_8_method_44_code
def yX6_wouldMark : MethodName := ⟨RX6, "wouldMark", "(I)I"⟩
abbrev cX6_wouldBreak : ByteArray := prog_8_method_45_code
def yX6_wouldBreak : MethodName := ⟨RX6, "wouldBreak", "(IZ)I"⟩
abbrev cX6_programmeBreaks : ByteArray := prog_8_method_46_code
def yX6_programmeBreaks : MethodName := ⟨RX6, "programmeBreaks", "()I"⟩
abbrev cX6_best : ByteArray := prog_8_method_47_code
def yX6_best : MethodName := ⟨RX6, "best", "()I"⟩
abbrev cX6_leastBreaking : ByteArray := prog_8_method_48_code
def yX6_leastBreaking : MethodName := ⟨RX6, "leastBreaking", "()I"⟩
abbrev cX6_shocksFor : ByteArray := prog_8_method_49_code
def yX6_shocksFor : MethodName := ⟨RX6, "shocksFor", "(I)I"⟩
abbrev cX6_isBroken : ByteArray := prog_8_method_50_code
def yX6_isBroken : MethodName := ⟨RX6, "isBroken", "(I)Z"⟩
abbrev cX6_ahead : ByteArray := prog_8_method_51_code
def yX6_ahead : MethodName := ⟨RX6, "ahead", "(III)I"⟩
abbrev cX6_placed : ByteArray := prog_8_method_52_code
def yX6_placed : MethodName := ⟨RX6, "placed", "(II)I"⟩
abbrev cX6_cupAt : ByteArray := prog_8_method_53_code
def yX6_cupAt : MethodName := ⟨RX6, "cupAt", "(I)I"⟩
abbrev cX6_lampAt : ByteArray := prog_8_method_54_code
def yX6_lampAt : MethodName := ⟨RX6, "lampAt", "(I)I"⟩
abbrev cX6_catAt : ByteArray := prog_8_method_55_code
def yX6_catAt : MethodName := ⟨RX6, "catAt", "(I)I"⟩
abbrev cX6_onFloor : ByteArray := prog_8_method_56_code
def yX6_onFloor : MethodName := ⟨RX6, "onFloor", "(II)I"⟩
abbrev cX6_says : ByteArray := prog_8_method_57_code
def yX6_says : MethodName := ⟨RX6, "says", "(C)V"⟩
abbrev cX6_saysNumber : ByteArray := prog_8_method_58_code
def yX6_saysNumber : MethodName := ⟨RX6, "saysNumber", "(I)V"⟩
abbrev cX6_saysValue : ByteArray := prog_8_method_59_code
def yX6_saysValue : MethodName := ⟨RX6, "saysValue", "(I)V"⟩
abbrev cX6_line : ByteArray := prog_8_method_60_code
def yX6_line : MethodName := ⟨RX6, "line", "(I)I"⟩
abbrev cX6_programmeLine : ByteArray := prog_8_method_61_code
def yX6_programmeLine : MethodName := ⟨RX6, "programmeLine", "()I"⟩
abbrev cX6_character : ByteArray := prog_8_method_62_code
def yX6_character : MethodName := ⟨RX6, "character", "(I)C"⟩
abbrev cX6_append : ByteArray := prog_8_method_63_code
def yX6_append : MethodName := ⟨RX6, "append", "(C)I"⟩
abbrev cX6_isHere : ByteArray := prog_8_method_64_code
def yX6_isHere : MethodName := ⟨RX6, "isHere", "(CC)Z"⟩
abbrev cX6_sign : ByteArray := prog_8_method_65_code
def yX6_sign : MethodName := ⟨RX6, "sign", "(CC)I"⟩
abbrev cX6_skip : ByteArray := prog_8_method_66_code
def yX6_skip : MethodName := ⟨RX6, "skip", "(Ljava/lang/String;)V"⟩
abbrev cX6_common : ByteArray := prog_8_method_67_code
def yX6_common : MethodName := ⟨RX6, "common", "(Ljava/lang/String;)I"⟩
abbrev cX6_word : ByteArray := prog_8_method_68_code
def yX6_word : MethodName := ⟨RX6, "word", "()I"⟩
abbrev cX6_digit : ByteArray := prog_8_method_69_code
def yX6_digit : MethodName := ⟨RX6, "digit", "()I"⟩
abbrev cX6_number : ByteArray := prog_8_method_70_code
def yX6_number : MethodName := ⟨RX6, "number", "()I"⟩
abbrev cX6_readOrder : ByteArray := prog_8_method_71_code
def yX6_readOrder : MethodName := ⟨RX6, "readOrder", "()V"⟩
abbrev cX6_does : ByteArray := prog_8_method_72_code
def yX6_does : MethodName := ⟨RX6, "does", "(I)V"⟩
abbrev cX6_run : ByteArray := prog_8_method_73_code
def yX6_run : MethodName := ⟨RX6, "run", "()I"⟩
abbrev cX6_errorPosition : ByteArray := prog_8_method_74_code
def yX6_errorPosition : MethodName := ⟨RX6, "errorPosition", "()I"⟩
abbrev cX6_brokenMany : ByteArray := prog_8_method_75_code
def yX6_brokenMany : MethodName := ⟨RX6, "brokenMany", "()I"⟩
abbrev cX6_account : ByteArray := prog_8_method_76_code
def yX6_account : MethodName := ⟨RX6, "account", "(I)I"⟩
abbrev cX6_isWell : ByteArray := prog_8_method_77_code
def yX6_isWell : MethodName := ⟨RX6, "isWell", "()Z"⟩
abbrev cX6_meanGrade : ByteArray := prog_8_method_78_code
def yX6_meanGrade : MethodName := ⟨RX6, "meanGrade", "()D"⟩
abbrev cX6_brokenShare : ByteArray := prog_8_method_79_code
def yX6_brokenShare : MethodName := ⟨RX6, "brokenShare", "()F"⟩
abbrev cX6_undo : ByteArray := prog_8_method_80_code
def yX6_undo : MethodName := ⟨RX6, "undo", "()I"⟩
abbrev cX6_save : ByteArray := prog_8_method_81_code
def yX6_save : MethodName := ⟨RX6, "save", "()I"⟩
abbrev cX6_restore : ByteArray := prog_8_method_82_code
def yX6_restore : MethodName := ⟨RX6, "restore", "()I"⟩
def RJx145de : String := "java/io/Serializable"
def TJx145de : u_T := fun k => match k with
  | _ => ("", "", "", false)
def tyJx145de : Nat → FieldType := fun k => match k with
  | _ => .int
theorem nmJx145de : ∀ a, a < 0 → ∀ b, b < 0 → a ≠ b → (TJx145de a).2.1 ≠ (TJx145de b).2.1 := by decide +kernel
theorem tyJx145de_ok : ∀ k, k < 0 → parseFieldDescriptor (TJx145de k).2.2.1 = some (tyJx145de k) := by decide +kernel
def RJ5 : String := "java/lang/AbstractStringBuilder"
def TJ5 : u_T := fun k => match k with
  | _ => ("", "", "", false)
def tyJ5 : Nat → FieldType := fun k => match k with
  | _ => .int
abbrev wsJ50 : List Cond := u_ws RJ5 TJ5 0
theorem nmJ5 : ∀ a, a < 0 → ∀ b, b < 0 → a ≠ b → (TJ5 a).2.1 ≠ (TJ5 b).2.1 := by decide +kernel
theorem tyJ5_ok : ∀ k, k < 0 → parseFieldDescriptor (TJ5 k).2.2.1 = some (tyJ5 k) := by decide +kernel
abbrev cJ5_init_d00df : ByteArray := prog_10_method_2_code
def yJ5_init_d00df : MethodName := ⟨RJ5, "<init>", "(I)V"⟩
abbrev cJ5_length_8abf5 : ByteArray := prog_10_method_6_code
def yJ5_length_8abf5 : MethodName := ⟨RJ5, "length", "()I"⟩
abbrev cJ5_ensureCapacityInternal_d00df : ByteArray := prog_10_method_9_code
def yJ5_ensureCapacityInternal_d00df : MethodName := ⟨RJ5, "ensureCapacityInternal", "(I)V"⟩
abbrev cJ5_newCapacity_0f7a4 : ByteArray := prog_10_method_10_code
def yJ5_newCapacity_0f7a4 : MethodName := ⟨RJ5, "newCapacity", "(I)I"⟩
abbrev cJ5_inflate_da8c8 : ByteArray := prog_10_method_11_code
def yJ5_inflate_da8c8 : MethodName := ⟨RJ5, "inflate", "()V"⟩
abbrev cJ5_append_cf1ce : ByteArray := prog_10_method_22_code
def yJ5_append_cf1ce : MethodName := ⟨RJ5, "append", "(Ljava/lang/String;)Ljava/lang/AbstractStringBuilder;"⟩
abbrev cJ5_appendNull_278bc : ByteArray := prog_10_method_26_code
def yJ5_appendNull_278bc : MethodName := ⟨RJ5, "appendNull", "()Ljava/lang/AbstractStringBuilder;"⟩
abbrev cJ5_append_c97b9 : ByteArray := prog_10_method_32_code
def yJ5_append_c97b9 : MethodName := ⟨RJ5, "append", "(I)Ljava/lang/AbstractStringBuilder;"⟩
abbrev cJ5_getValue_6d5f1 : ByteArray := prog_10_method_64_code
def yJ5_getValue_6d5f1 : MethodName := ⟨RJ5, "getValue", "()[B"⟩
abbrev cJ5_isLatin1_aae02 : ByteArray := prog_10_method_68_code
def yJ5_isLatin1_aae02 : MethodName := ⟨RJ5, "isLatin1", "()Z"⟩
abbrev cJ5_inflateIfNeededFor_a7421 : ByteArray := prog_10_method_71_code
def yJ5_inflateIfNeededFor_a7421 : MethodName := ⟨RJ5, "inflateIfNeededFor", "(Ljava/lang/String;)V"⟩
abbrev cJ5_putStringAt_47b60 : ByteArray := prog_10_method_73_code
def yJ5_putStringAt_47b60 : MethodName := ⟨RJ5, "putStringAt", "(ILjava/lang/String;)V"⟩
def RJx2cfe8 : String := "java/lang/Appendable"
def TJx2cfe8 : u_T := fun k => match k with
  | _ => ("", "", "", false)
def tyJx2cfe8 : Nat → FieldType := fun k => match k with
  | _ => .int
theorem nmJx2cfe8 : ∀ a, a < 0 → ∀ b, b < 0 → a ≠ b → (TJx2cfe8 a).2.1 ≠ (TJx2cfe8 b).2.1 := by decide +kernel
theorem tyJx2cfe8_ok : ∀ k, k < 0 → parseFieldDescriptor (TJx2cfe8 k).2.2.1 = some (tyJx2cfe8 k) := by decide +kernel
def RJx00060 : String := "java/lang/ArrayIndexOutOfBoundsException"
def TJx00060 : u_T := fun k => match k with
  | 0 => ("java/lang/Throwable", "backtrace", "Ljava/lang/Object;", false)
  | 1 => ("java/lang/Throwable", "detailMessage", "Ljava/lang/String;", false)
  | 2 => ("java/lang/Throwable", "cause", "Ljava/lang/Throwable;", false)
  | 3 => ("java/lang/Throwable", "stackTrace", "[Ljava/lang/StackTraceElement;", false)
  | 4 => ("java/lang/Throwable", "depth", "I", false)
  | _ => ("java/lang/Throwable", "suppressedExceptions", "Ljava/util/List;", false)
def tyJx00060 : Nat → FieldType := fun k => match k with
  | 0 => .object "java/lang/Object"
  | 1 => .object "java/lang/String"
  | 2 => .object "java/lang/Throwable"
  | 3 => .array (.object "java/lang/StackTraceElement")
  | 4 => .int
  | _ => .object "java/util/List"
abbrev wsJx000600 : List Cond := u_ws RJx00060 TJx00060 6
theorem nmJx00060 : ∀ a, a < 6 → ∀ b, b < 6 → a ≠ b → (TJx00060 a).2.1 ≠ (TJx00060 b).2.1 := by decide +kernel
theorem tyJx00060_ok : ∀ k, k < 6 → parseFieldDescriptor (TJx00060 k).2.2.1 = some (tyJx00060 k) := by decide +kernel
abbrev cJx00060_init_a7421 : ByteArray := prog_13_method_2_code
def yJx00060_init_a7421 : MethodName := ⟨RJx00060, "<init>", "(Ljava/lang/String;)V"⟩
def RJx9f9b0 : String := "java/lang/CharSequence"
def TJx9f9b0 : u_T := fun k => match k with
  | _ => ("", "", "", false)
def tyJx9f9b0 : Nat → FieldType := fun k => match k with
  | _ => .int
theorem nmJx9f9b0 : ∀ a, a < 0 → ∀ b, b < 0 → a ≠ b → (TJx9f9b0 a).2.1 ≠ (TJx9f9b0 b).2.1 := by decide +kernel
theorem tyJx9f9b0_ok : ∀ k, k < 0 → parseFieldDescriptor (TJx9f9b0 k).2.2.1 = some (tyJx9f9b0 k) := by decide +kernel
def RJ11 : String := "java/lang/Character"
def TJ11 : u_T := fun k => match k with
  | _ => ("", "", "", false)
def tyJ11 : Nat → FieldType := fun k => match k with
  | _ => .int
abbrev wsJ110 : List Cond := u_ws RJ11 TJ11 0
theorem nmJ11 : ∀ a, a < 0 → ∀ b, b < 0 → a ≠ b → (TJ11 a).2.1 ≠ (TJ11 b).2.1 := by decide +kernel
theorem tyJ11_ok : ∀ k, k < 0 → parseFieldDescriptor (TJ11 k).2.2.1 = some (tyJ11 k) := by decide +kernel
abbrev cJ11_isValidCodePoint_9a6ad : ByteArray := prog_15_method_11_code
def yJ11_isValidCodePoint_9a6ad : MethodName := ⟨RJ11, "isValidCodePoint", "(I)Z"⟩
abbrev cJ11_highSurrogate_5068e : ByteArray := prog_15_method_28_code
def yJ11_highSurrogate_5068e : MethodName := ⟨RJ11, "highSurrogate", "(I)C"⟩
abbrev cJ11_lowSurrogate_5068e : ByteArray := prog_15_method_29_code
def yJ11_lowSurrogate_5068e : MethodName := ⟨RJ11, "lowSurrogate", "(I)C"⟩
def RJx8e188 : String := "java/lang/Cloneable"
def TJx8e188 : u_T := fun k => match k with
  | _ => ("", "", "", false)
def tyJx8e188 : Nat → FieldType := fun k => match k with
  | _ => .int
theorem nmJx8e188 : ∀ a, a < 0 → ∀ b, b < 0 → a ≠ b → (TJx8e188 a).2.1 ≠ (TJx8e188 b).2.1 := by decide +kernel
theorem tyJx8e188_ok : ∀ k, k < 0 → parseFieldDescriptor (TJx8e188 k).2.2.1 = some (tyJx8e188 k) := by decide +kernel
def RJxb160c : String := "java/lang/Comparable"
def TJxb160c : u_T := fun k => match k with
  | _ => ("", "", "", false)
def tyJxb160c : Nat → FieldType := fun k => match k with
  | _ => .int
theorem nmJxb160c : ∀ a, a < 0 → ∀ b, b < 0 → a ≠ b → (TJxb160c a).2.1 ≠ (TJxb160c b).2.1 := by decide +kernel
theorem tyJxb160c_ok : ∀ k, k < 0 → parseFieldDescriptor (TJxb160c k).2.2.1 = some (tyJxb160c k) := by decide +kernel
def RJ6 : String := "java/lang/Integer"
def TJ6 : u_T := fun k => match k with
  | _ => ("", "", "", false)
def tyJ6 : Nat → FieldType := fun k => match k with
  | _ => .int
abbrev wsJ60 : List Cond := u_ws RJ6 TJ6 0
theorem nmJ6 : ∀ a, a < 0 → ∀ b, b < 0 → a ≠ b → (TJ6 a).2.1 ≠ (TJ6 b).2.1 := by decide +kernel
theorem tyJ6_ok : ∀ k, k < 0 → parseFieldDescriptor (TJ6 k).2.2.1 = some (tyJ6 k) := by decide +kernel
abbrev cJ6_getChars_ba4f3 : ByteArray := prog_22_method_12_code
def yJ6_getChars_ba4f3 : MethodName := ⟨RJ6, "getChars", "(II[B)I"⟩
abbrev cJ6_stringSize_0f7a4 : ByteArray := prog_22_method_13_code
def yJ6_stringSize_0f7a4 : MethodName := ⟨RJ6, "stringSize", "(I)I"⟩
abbrev cJ6_compare_7cf53 : ByteArray := prog_22_method_40_code
def yJ6_compare_7cf53 : MethodName := ⟨RJ6, "compare", "(II)I"⟩
def RJ9 : String := "java/lang/Math"
def TJ9 : u_T := fun k => match k with
  | _ => ("", "", "", false)
def tyJ9 : Nat → FieldType := fun k => match k with
  | _ => .int
abbrev wsJ90 : List Cond := u_ws RJ9 TJ9 0
theorem nmJ9 : ∀ a, a < 0 → ∀ b, b < 0 → a ≠ b → (TJ9 a).2.1 ≠ (TJ9 b).2.1 := by decide +kernel
theorem tyJ9_ok : ∀ k, k < 0 → parseFieldDescriptor (TJ9 k).2.2.1 = some (tyJ9 k) := by decide +kernel
abbrev cJ9_abs_0f7a4 : ByteArray := prog_23_method_59_code
def yJ9_abs_0f7a4 : MethodName := ⟨RJ9, "abs", "(I)I"⟩
abbrev cJ9_max_7cf53 : ByteArray := prog_23_method_65_code
def yJ9_max_7cf53 : MethodName := ⟨RJ9, "max", "(II)I"⟩
abbrev cJ9_min_7cf53 : ByteArray := prog_23_method_69_code
def yJ9_min_7cf53 : MethodName := ⟨RJ9, "min", "(II)I"⟩
def RJxd2413 : String := "java/lang/Number"
def TJxd2413 : u_T := fun k => match k with
  | _ => ("", "", "", false)
def tyJxd2413 : Nat → FieldType := fun k => match k with
  | _ => .int
theorem nmJxd2413 : ∀ a, a < 0 → ∀ b, b < 0 → a ≠ b → (TJxd2413 a).2.1 ≠ (TJxd2413 b).2.1 := by decide +kernel
theorem tyJxd2413_ok : ∀ k, k < 0 → parseFieldDescriptor (TJxd2413 k).2.2.1 = some (tyJxd2413 k) := by decide +kernel
def RJ0 : String := "java/lang/String"
def TJ0 : u_T := fun k => match k with
  | 0 => ("java/lang/String", "value", "[B", true)
  | 1 => ("java/lang/String", "coder", "B", true)
  | 2 => ("java/lang/String", "hash", "I", false)
  | _ => ("java/lang/String", "hashIsZero", "Z", false)
def tyJ0 : Nat → FieldType := fun k => match k with
  | 0 => .array .byte
  | 1 => .byte
  | 2 => .int
  | _ => .boolean
abbrev wsJ00 : List Cond := u_ws RJ0 TJ0 4
theorem nmJ0 : ∀ a, a < 4 → ∀ b, b < 4 → a ≠ b → (TJ0 a).2.1 ≠ (TJ0 b).2.1 := by decide +kernel
theorem tyJ0_ok : ∀ k, k < 4 → parseFieldDescriptor (TJ0 k).2.2.1 = some (tyJ0 k) := by decide +kernel
abbrev cJ0_init_81219 : ByteArray := prog_26_method_53_code
def yJ0_init_81219 : MethodName := ⟨RJ0, "<init>", "(Ljava/lang/StringBuilder;)V"⟩
abbrev cJ0_length_8abf5 : ByteArray := prog_26_method_54_code
def yJ0_length_8abf5 : MethodName := ⟨RJ0, "length", "()I"⟩
abbrev cJ0_charAt_5068e : ByteArray := prog_26_method_56_code
def yJ0_charAt_5068e : MethodName := ⟨RJ0, "charAt", "(I)C"⟩
abbrev cJ0_indexOf_7cf53 : ByteArray := prog_26_method_80_code
def yJ0_indexOf_7cf53 : MethodName := ⟨RJ0, "indexOf", "(II)I"⟩
abbrev cJ0_substring_37a41 : ByteArray := prog_26_method_92_code
def yJ0_substring_37a41 : MethodName := ⟨RJ0, "substring", "(II)Ljava/lang/String;"⟩
abbrev cJ0_getBytes_840e7 : ByteArray := prog_26_method_147_code
def yJ0_getBytes_840e7 : MethodName := ⟨RJ0, "getBytes", "([BIB)V"⟩
abbrev cJ0_init_db425 : ByteArray := prog_26_method_150_code
def yJ0_init_db425 : MethodName := ⟨RJ0, "<init>", "(Ljava/lang/AbstractStringBuilder;Ljava/lang/Void;)V"⟩
abbrev cJ0_init_031fb : ByteArray := prog_26_method_151_code
def yJ0_init_031fb : MethodName := ⟨RJ0, "<init>", "([BB)V"⟩
abbrev cJ0_coder_7d493 : ByteArray := prog_26_method_152_code
def yJ0_coder_7d493 : MethodName := ⟨RJ0, "coder", "()B"⟩
abbrev cJ0_isLatin1_aae02 : ByteArray := prog_26_method_154_code
def yJ0_isLatin1_aae02 : MethodName := ⟨RJ0, "isLatin1", "()Z"⟩
abbrev cJ0_checkIndex_df160 : ByteArray := prog_26_method_155_code
def yJ0_checkIndex_df160 : MethodName := ⟨RJ0, "checkIndex", "(II)V"⟩
abbrev cJ0_checkBoundsOffCount_cabcc : ByteArray := prog_26_method_157_code
def yJ0_checkBoundsOffCount_cabcc : MethodName := ⟨RJ0, "checkBoundsOffCount", "(III)I"⟩
abbrev cJ0_checkBoundsBeginEnd_23922 : ByteArray := prog_26_method_158_code
def yJ0_checkBoundsBeginEnd_23922 : MethodName := ⟨RJ0, "checkBoundsBeginEnd", "(III)V"⟩
def RJ4 : String := "java/lang/StringBuilder"
def TJ4 : u_T := fun k => match k with
  | 0 => ("java/lang/AbstractStringBuilder", "value", "[B", false)
  | 1 => ("java/lang/AbstractStringBuilder", "coder", "B", false)
  | 2 => ("java/lang/AbstractStringBuilder", "maybeLatin1", "Z", false)
  | _ => ("java/lang/AbstractStringBuilder", "count", "I", false)
def tyJ4 : Nat → FieldType := fun k => match k with
  | 0 => .array .byte
  | 1 => .byte
  | 2 => .boolean
  | _ => .int
abbrev wsJ40 : List Cond := u_ws RJ4 TJ4 4
theorem nmJ4 : ∀ a, a < 4 → ∀ b, b < 4 → a ≠ b → (TJ4 a).2.1 ≠ (TJ4 b).2.1 := by decide +kernel
theorem tyJ4_ok : ∀ k, k < 4 → parseFieldDescriptor (TJ4 k).2.2.1 = some (tyJ4 k) := by decide +kernel
abbrev cJ4_init_da8c8 : ByteArray := prog_27_method_1_code
def yJ4_init_da8c8 : MethodName := ⟨RJ4, "<init>", "()V"⟩
abbrev cJ4_append_15ec4 : ByteArray := prog_27_method_7_code
def yJ4_append_15ec4 : MethodName := ⟨RJ4, "append", "(Ljava/lang/String;)Ljava/lang/StringBuilder;"⟩
abbrev cJ4_append_bf812 : ByteArray := prog_27_method_15_code
def yJ4_append_bf812 : MethodName := ⟨RJ4, "append", "(I)Ljava/lang/StringBuilder;"⟩
abbrev cJ4_toString_0e30d : ByteArray := prog_27_method_42_code
def yJ4_toString_0e30d : MethodName := ⟨RJ4, "toString", "()Ljava/lang/String;"⟩
abbrev cJ4_length_8abf5 : ByteArray := prog_27_method_93_code
def yJ4_length_8abf5 : MethodName := ⟨RJ4, "length", "()I"⟩
def RJ1 : String := "java/lang/StringLatin1"
def TJ1 : u_T := fun k => match k with
  | _ => ("", "", "", false)
def tyJ1 : Nat → FieldType := fun k => match k with
  | _ => .int
abbrev wsJ10 : List Cond := u_ws RJ1 TJ1 0
theorem nmJ1 : ∀ a, a < 0 → ∀ b, b < 0 → a ≠ b → (TJ1 a).2.1 ≠ (TJ1 b).2.1 := by decide +kernel
theorem tyJ1_ok : ∀ k, k < 0 → parseFieldDescriptor (TJ1 k).2.2.1 = some (tyJ1 k) := by decide +kernel
abbrev cJ1_charAt_3b067 : ByteArray := prog_28_method_2_code
def yJ1_charAt_3b067 : MethodName := ⟨RJ1, "charAt", "([BI)C"⟩
abbrev cJ1_canEncode_9a6ad : ByteArray := prog_28_method_4_code
def yJ1_canEncode_9a6ad : MethodName := ⟨RJ1, "canEncode", "(I)Z"⟩
abbrev cJ1_indexOf_4cfef : ByteArray := prog_28_method_22_code
def yJ1_indexOf_4cfef : MethodName := ⟨RJ1, "indexOf", "([BIII)I"⟩
abbrev cJ1_indexOfChar_4cfef : ByteArray := prog_28_method_23_code
def yJ1_indexOfChar_4cfef : MethodName := ⟨RJ1, "indexOfChar", "([BIII)I"⟩
abbrev cJ1_newString_b4f7a : ByteArray := prog_28_method_47_code
def yJ1_newString_b4f7a : MethodName := ⟨RJ1, "newString", "([BII)Ljava/lang/String;"⟩
abbrev cJ1_inflate_0e8fd : ByteArray := prog_28_method_50_code
def yJ1_inflate_0e8fd : MethodName := ⟨RJ1, "inflate", "([BI[BII)V"⟩
def RJ2 : String := "java/lang/StringUTF16"
def TJ2 : u_T := fun k => match k with
  | _ => ("", "", "", false)
def tyJ2 : Nat → FieldType := fun k => match k with
  | _ => .int
abbrev wsJ20 : List Cond := u_ws RJ2 TJ2 0
theorem nmJ2 : ∀ a, a < 0 → ∀ b, b < 0 → a ≠ b → (TJ2 a).2.1 ≠ (TJ2 b).2.1 := by decide +kernel
theorem tyJ2_ok : ∀ k, k < 0 → parseFieldDescriptor (TJ2 k).2.2.1 = some (tyJ2 k) := by decide +kernel
abbrev cJ2_newBytesFor_77867 : ByteArray := prog_29_method_2_code
def yJ2_newBytesFor_77867 : MethodName := ⟨RJ2, "newBytesFor", "(I)[B"⟩
abbrev cJ2_newBytesLength_0f7a4 : ByteArray := prog_29_method_3_code
def yJ2_newBytesLength_0f7a4 : MethodName := ⟨RJ2, "newBytesLength", "(I)I"⟩
abbrev cJ2_putChar_b72d1 : ByteArray := prog_29_method_4_code
def yJ2_putChar_b72d1 : MethodName := ⟨RJ2, "putChar", "([BII)V"⟩
abbrev cJ2_getChar_3b067 : ByteArray := prog_29_method_5_code
def yJ2_getChar_3b067 : MethodName := ⟨RJ2, "getChar", "([BI)C"⟩
abbrev cJ2_length_9d52b : ByteArray := prog_29_method_6_code
def yJ2_length_9d52b : MethodName := ⟨RJ2, "length", "([B)I"⟩
abbrev cJ2_coderFromArrayLen_85cad : ByteArray := prog_29_method_15_code
def yJ2_coderFromArrayLen_85cad : MethodName := ⟨RJ2, "coderFromArrayLen", "([BI)B"⟩
abbrev cJ2_compress_39247 : ByteArray := prog_29_method_17_code
def yJ2_compress_39247 : MethodName := ⟨RJ2, "compress", "([BII)[B"⟩
abbrev cJ2_compress_5af95 : ByteArray := prog_29_method_22_code
def yJ2_compress_5af95 : MethodName := ⟨RJ2, "compress", "([BI[BII)I"⟩
abbrev cJ2_indexOf_4cfef : ByteArray := prog_29_method_40_code
def yJ2_indexOf_4cfef : MethodName := ⟨RJ2, "indexOf", "([BIII)I"⟩
abbrev cJ2_indexOfChar_4cfef : ByteArray := prog_29_method_47_code
def yJ2_indexOfChar_4cfef : MethodName := ⟨RJ2, "indexOfChar", "([BIII)I"⟩
abbrev cJ2_indexOfCharUnsafe_4cfef : ByteArray := prog_29_method_48_code
def yJ2_indexOfCharUnsafe_4cfef : MethodName := ⟨RJ2, "indexOfCharUnsafe", "([BIII)I"⟩
abbrev cJ2_indexOfSupplementary_4cfef : ByteArray := prog_29_method_49_code
def yJ2_indexOfSupplementary_4cfef : MethodName := ⟨RJ2, "indexOfSupplementary", "([BIII)I"⟩
abbrev cJ2_newString_b4f7a : ByteArray := prog_29_method_69_code
def yJ2_newString_b4f7a : MethodName := ⟨RJ2, "newString", "([BII)Ljava/lang/String;"⟩
abbrev cJ2_getChars_46870 : ByteArray := prog_29_method_77_code
def yJ2_getChars_46870 : MethodName := ⟨RJ2, "getChars", "(III[B)I"⟩
abbrev cJ2_putCharsAt_cd4e5 : ByteArray := prog_29_method_81_code
def yJ2_putCharsAt_cd4e5 : MethodName := ⟨RJ2, "putCharsAt", "([BICCCC)I"⟩
abbrev cJ2_charAt_3b067 : ByteArray := prog_29_method_83_code
def yJ2_charAt_3b067 : MethodName := ⟨RJ2, "charAt", "([BI)C"⟩
abbrev cJ2_inflate_0e8fd : ByteArray := prog_29_method_86_code
def yJ2_inflate_0e8fd : MethodName := ⟨RJ2, "inflate", "([BI[BII)V"⟩
abbrev cJ2_getChars_ba4f3 : ByteArray := prog_29_method_89_code
def yJ2_getChars_ba4f3 : MethodName := ⟨RJ2, "getChars", "(II[B)I"⟩
abbrev cJ2_checkIndex_2214a : ByteArray := prog_29_method_91_code
def yJ2_checkIndex_2214a : MethodName := ⟨RJ2, "checkIndex", "(I[B)V"⟩
abbrev cJ2_checkBoundsBeginEnd_d044e : ByteArray := prog_29_method_93_code
def yJ2_checkBoundsBeginEnd_d044e : MethodName := ⟨RJ2, "checkBoundsBeginEnd", "(II[B)V"⟩
abbrev cJ2_checkBoundsOffCount_d044e : ByteArray := prog_29_method_94_code
def yJ2_checkBoundsOffCount_d044e : MethodName := ⟨RJ2, "checkBoundsOffCount", "(II[B)V"⟩
def RJ10 : String := "java/lang/System"
def TJ10 : u_T := fun k => match k with
  | _ => ("", "", "", false)
def tyJ10 : Nat → FieldType := fun k => match k with
  | _ => .int
abbrev wsJ100 : List Cond := u_ws RJ10 TJ10 0
theorem nmJ10 : ∀ a, a < 0 → ∀ b, b < 0 → a ≠ b → (TJ10 a).2.1 ≠ (TJ10 b).2.1 := by decide +kernel
theorem tyJ10_ok : ∀ k, k < 0 → parseFieldDescriptor (TJ10 k).2.2.1 = some (tyJ10 k) := by decide +kernel
def RJxfd54e : String := "java/lang/constant/Constable"
def TJxfd54e : u_T := fun k => match k with
  | _ => ("", "", "", false)
def tyJxfd54e : Nat → FieldType := fun k => match k with
  | _ => .int
theorem nmJxfd54e : ∀ a, a < 0 → ∀ b, b < 0 → a ≠ b → (TJxfd54e a).2.1 ≠ (TJxfd54e b).2.1 := by decide +kernel
theorem tyJxfd54e_ok : ∀ k, k < 0 → parseFieldDescriptor (TJxfd54e k).2.2.1 = some (tyJxfd54e k) := by decide +kernel
def RJx3cf43 : String := "java/lang/constant/ConstantDesc"
def TJx3cf43 : u_T := fun k => match k with
  | _ => ("", "", "", false)
def tyJx3cf43 : Nat → FieldType := fun k => match k with
  | _ => .int
theorem nmJx3cf43 : ∀ a, a < 0 → ∀ b, b < 0 → a ≠ b → (TJx3cf43 a).2.1 ≠ (TJx3cf43 b).2.1 := by decide +kernel
theorem tyJx3cf43_ok : ∀ k, k < 0 → parseFieldDescriptor (TJx3cf43 k).2.2.1 = some (tyJx3cf43 k) := by decide +kernel
def RJ7 : String := "java/util/Arrays"
def TJ7 : u_T := fun k => match k with
  | _ => ("", "", "", false)
def tyJ7 : Nat → FieldType := fun k => match k with
  | _ => .int
abbrev wsJ70 : List Cond := u_ws RJ7 TJ7 0
theorem nmJ7 : ∀ a, a < 0 → ∀ b, b < 0 → a ≠ b → (TJ7 a).2.1 ≠ (TJ7 b).2.1 := by decide +kernel
theorem tyJ7_ok : ∀ k, k < 0 → parseFieldDescriptor (TJ7 k).2.2.1 = some (tyJ7 k) := by decide +kernel
abbrev cJ7_copyOf_9075b : ByteArray := prog_35_method_121_code
def yJ7_copyOf_9075b : MethodName := ⟨RJ7, "copyOf", "([BI)[B"⟩
abbrev cJ7_checkLength_df160 : ByteArray := prog_35_method_131_code
def yJ7_checkLength_df160 : MethodName := ⟨RJ7, "checkLength", "(II)V"⟩
abbrev cJ7_copyOfRange_39247 : ByteArray := prog_35_method_132_code
def yJ7_copyOfRange_39247 : MethodName := ⟨RJ7, "copyOfRange", "([BII)[B"⟩
abbrev cJ7_copyOfRangeByte_39247 : ByteArray := prog_35_method_133_code
def yJ7_copyOfRangeByte_39247 : MethodName := ⟨RJ7, "copyOfRangeByte", "([BII)[B"⟩
def RJ8 : String := "jdk/internal/util/ArraysSupport"
def TJ8 : u_T := fun k => match k with
  | _ => ("", "", "", false)
def tyJ8 : Nat → FieldType := fun k => match k with
  | _ => .int
abbrev wsJ80 : List Cond := u_ws RJ8 TJ8 0
theorem nmJ8 : ∀ a, a < 0 → ∀ b, b < 0 → a ≠ b → (TJ8 a).2.1 ≠ (TJ8 b).2.1 := by decide +kernel
theorem tyJ8_ok : ∀ k, k < 0 → parseFieldDescriptor (TJ8 k).2.2.1 = some (tyJ8 k) := by decide +kernel
abbrev cJ8_newLength_cabcc : ByteArray := prog_37_method_27_code
def yJ8_newLength_cabcc : MethodName := ⟨RJ8, "newLength", "(III)I"⟩
abbrev cJ8_hugeLength_7cf53 : ByteArray := prog_37_method_28_code
def yJ8_hugeLength_7cf53 : MethodName := ⟨RJ8, "hugeLength", "(II)I"⟩
def RJ3 : String := "jdk/internal/util/Preconditions"
def TJ3 : u_T := fun k => match k with
  | _ => ("", "", "", false)
def tyJ3 : Nat → FieldType := fun k => match k with
  | _ => .int
abbrev wsJ30 : List Cond := u_ws RJ3 TJ3 0
theorem nmJ3 : ∀ a, a < 0 → ∀ b, b < 0 → a ≠ b → (TJ3 a).2.1 ≠ (TJ3 b).2.1 := by decide +kernel
theorem tyJ3_ok : ∀ k, k < 0 → parseFieldDescriptor (TJ3 k).2.2.1 = some (tyJ3 k) := by decide +kernel
abbrev cJ3_checkIndex_8e157 : ByteArray := prog_38_method_11_code
def yJ3_checkIndex_8e157 : MethodName := ⟨RJ3, "checkIndex", "(IILjava/util/function/BiFunction;)I"⟩
abbrev cJ3_checkFromToIndex_8c36e : ByteArray := prog_38_method_12_code
def yJ3_checkFromToIndex_8c36e : MethodName := ⟨RJ3, "checkFromToIndex", "(IIILjava/util/function/BiFunction;)I"⟩
abbrev cJ3_checkFromIndexSize_8c36e : ByteArray := prog_38_method_13_code
def yJ3_checkFromIndexSize_8c36e : MethodName := ⟨RJ3, "checkFromIndexSize", "(IIILjava/util/function/BiFunction;)I"⟩
def RL : String := "QuakeRehearsalLaw"
abbrev cL_cup : ByteArray := method_3_code
def yL_cup : MethodName := ⟨RL, "cup", "(LQuakeRehearsal;II[J)I"⟩
abbrev cL_lamp : ByteArray := method_4_code
def yL_lamp : MethodName := ⟨RL, "lamp", "(LQuakeRehearsal;II[J)I"⟩
abbrev cL_cat : ByteArray := method_5_code
def yL_cat : MethodName := ⟨RL, "cat", "(LQuakeRehearsal;II[J)I"⟩
abbrev cL_take : ByteArray := method_6_code
def yL_take : MethodName := ⟨RL, "take", "(LQuakeRehearsal;I[J)I"⟩
abbrev cL_cue : ByteArray := method_7_code
def yL_cue : MethodName := ⟨RL, "cue", "(LQuakeRehearsal;II[J)I"⟩
abbrev cL_set : ByteArray := method_8_code
def yL_set : MethodName := ⟨RL, "set", "(LQuakeRehearsal;I[J)I"⟩
abbrev cL_add : ByteArray := method_9_code
def yL_add : MethodName := ⟨RL, "add", "(LQuakeRehearsal;I[J)I"⟩
abbrev cL_perform : ByteArray := method_10_code
def yL_perform : MethodName := ⟨RL, "perform", "(LQuakeRehearsal;[J)I"⟩
abbrev cL_propOf : ByteArray := method_11_code
def yL_propOf : MethodName := ⟨RL, "propOf", "(LQuakeRehearsal;II[J)I"⟩
abbrev cL_programme : ByteArray := method_12_code
def yL_programme : MethodName := ⟨RL, "programme", "(LQuakeRehearsal;I[J)I"⟩
abbrev cL_on : ByteArray := method_13_code
def yL_on : MethodName := ⟨RL, "on", "(LQuakeRehearsal;IIZ[J)I"⟩
abbrev cL_wouldMark : ByteArray := method_14_code
def yL_wouldMark : MethodName := ⟨RL, "wouldMark", "(LQuakeRehearsal;I[J)I"⟩
abbrev cL_wouldBreak : ByteArray := method_15_code
def yL_wouldBreak : MethodName := ⟨RL, "wouldBreak", "(LQuakeRehearsal;IZ[J)I"⟩
abbrev cL_leastBreaking : ByteArray := method_16_code
def yL_leastBreaking : MethodName := ⟨RL, "leastBreaking", "(LQuakeRehearsal;[J)I"⟩
abbrev cL_shocksFor : ByteArray := method_17_code
def yL_shocksFor : MethodName := ⟨RL, "shocksFor", "(LQuakeRehearsal;I[J)I"⟩
abbrev cL_isBroken : ByteArray := method_18_code
def yL_isBroken : MethodName := ⟨RL, "isBroken", "(LQuakeRehearsal;I[J)I"⟩
abbrev cL_cupAt : ByteArray := method_19_code
def yL_cupAt : MethodName := ⟨RL, "cupAt", "(LQuakeRehearsal;I[J)I"⟩
abbrev cL_lampAt : ByteArray := method_20_code
def yL_lampAt : MethodName := ⟨RL, "lampAt", "(LQuakeRehearsal;I[J)I"⟩
abbrev cL_catAt : ByteArray := method_21_code
def yL_catAt : MethodName := ⟨RL, "catAt", "(LQuakeRehearsal;I[J)I"⟩
abbrev cL_onFloor : ByteArray := method_22_code
def yL_onFloor : MethodName := ⟨RL, "onFloor", "(LQuakeRehearsal;II[J)I"⟩
abbrev cL_line : ByteArray := method_23_code
def yL_line : MethodName := ⟨RL, "line", "(LQuakeRehearsal;I[J)I"⟩
abbrev cL_character : ByteArray := method_24_code
def yL_character : MethodName := ⟨RL, "character", "(LQuakeRehearsal;I[J)I"⟩
abbrev cL_append : ByteArray := method_25_code
def yL_append : MethodName := ⟨RL, "append", "(LQuakeRehearsal;C[J)I"⟩
abbrev cL_run : ByteArray := method_26_code
def yL_run : MethodName := ⟨RL, "run", "(LQuakeRehearsal;[J)I"⟩
abbrev cL_refusal : ByteArray := method_27_code
def yL_refusal : MethodName := ⟨RL, "refusal", "(LQuakeRehearsal;Z[J)I"⟩
abbrev cL_account : ByteArray := method_28_code
def yL_account : MethodName := ⟨RL, "account", "(LQuakeRehearsal;I[J)I"⟩
abbrev cL_meanGrade : ByteArray := method_29_code
def yL_meanGrade : MethodName := ⟨RL, "meanGrade", "(LQuakeRehearsal;[D)I"⟩
abbrev cL_brokenShare : ByteArray := method_30_code
def yL_brokenShare : MethodName := ⟨RL, "brokenShare", "(LQuakeRehearsal;[D)I"⟩
abbrev cL_undo : ByteArray := method_31_code
def yL_undo : MethodName := ⟨RL, "undo", "(LQuakeRehearsal;[J)I"⟩
abbrev cL_restore : ByteArray := method_32_code
def yL_restore : MethodName := ⟨RL, "restore", "(LQuakeRehearsal;[J)I"⟩
abbrev cL_law : ByteArray := code
def yL_law : MethodName := ⟨RL, "law", "([I)Z"⟩
abbrev vwCl : List vw_C := [(RJ0, TJ0, 4), (RJ4, TJ4, 4), (RJx00060, TJx00060, 6), (RX0, TX0, 13), (RX1, TX1, 3), (RX2, TX2, 2), (RX3, TX3, 7), (RX4, TX4, 7), (RX5, TX5, 11), (RX6, TX6, 21)]
end
section
/-! ===== BEGIN words of one list among another's, by their places ===== -/
theorem goodIn_r {big : List Cond} (ws : List Cond) (ps : List Nat) (hp : ws = ps.filterMap (fun i => big[i]?)) (h : ws.all goodWord = true) : GoodIn big ws := by
  intro w hw
  have h1 := List.all_eq_true.mp h w hw
  rw [hp] at hw
  obtain ⟨i, -, hi⟩ := List.mem_filterMap.mp hw
  have hm : w ∈ big := by first | exact List.mem_of_getElem? hi | exact List.getElem?_mem hi
  exact ⟨hm, good_of_word h1⟩
theorem goodIn_app {big a b : List Cond} (ha : GoodIn big a) (hb : GoodIn big b) : GoodIn big (a ++ b) := fun w h => (List.mem_append.mp h).elim (ha w) (hb w)
theorem goodIn_ca {big a b : List Cond} {c : Cond} (ha : GoodIn big (c :: a)) (hb : GoodIn big b) : GoodIn big (c :: (a ++ b)) := fun w h => (List.mem_cons.mp h).elim (fun e => ha w (List.mem_cons.mpr (Or.inl e))) (fun h => (List.mem_append.mp h).elim (fun h => ha w (List.mem_cons.mpr (Or.inr h))) (hb w))
theorem goodIn_sub {big ws : List Cond} (hm : ∀ w ∈ ws, w ∈ big) (h : ws.all goodWord = true) : GoodIn big ws := fun w hw => ⟨hm w hw, good_of_word (List.all_eq_true.mp h w hw)⟩
/-! ===== END ===== -/

/-! ===== BEGIN exceptions that leave a method, and their catching by the caller (launches without stack traces) ===== -/
section VXA
/-! The laws vx_back, vx_callV, vx_callS, vx_callSW, vx_throw0, vx_throwS follow proofs of the library, with one case more: JvmDerived/Free/Laws.lean (Back.of_free), Shelf42/LK1.lean (callV, callS), Shelf/KitTraced.lean (throwNew0V, throwNewS). -/
/-- where a method has thrown q: the class by its name, the cell, what was written, the world -/
def vx_T (XC : String → State → State → Prop) (st : State) (q : Addr) (t : State) (mc ms : Nat) (free : Addr → Prop) : Prop :=
  ∃ (E : String) (ce : Cell) (L : List Loc), XC E st t ∧ t.heap[q]? = some ce ∧ ce.vm = .none ∧ st.vm.findClass E = some ce.cls ∧ st.WarmedH t.vm ∧ st.sameButNew ({ t with vm := st.vm } : State) L mc ms ∧ ∀ z ∈ L, free z.base
def vx_Q (Qc : Array Value → State → Outcome → State → Prop) (XC : String → State → State → Prop) (mc ms : Nat) (free : Addr → Prop) : Array Value → State → Outcome → State → Prop := fun a st o t =>
  (Qc a st o t ∧ ∃ L, FrameEnd st o t L mc ms ∧ ∀ q ∈ L, free q.base) ∨ ∃ q, o = .threw q ∧ vx_T XC st q t mc ms free
/-- a callee that returns or throws -/
def vx_Met (l : Launch) (y : MethodName) (ws : List Cond) (rm : Room) (Pc : Array Value → State → Prop) (Qc : Array Value → State → Outcome → State → Prop) (XC : String → State → State → Prop) (mc ms : Nat) (free : Addr → Prop) : Prop :=
  MetFree l y (headSpec ws rm) Pc (fun _ _ _ _ _ => True) (vx_Q Qc XC mc ms free)
def vx_Post (XC : String → State → State → Prop) (mc ms : Nat) (free : Addr → Prop) : Pt → Array Value → Addr → Pt → Prop := fun A a q B =>
  ∃ (g : JFrame) (mk : MethodId) (t : State) (L : List Loc) (E : String) (ce : Cell), B.U.heap = t.heap ∧ B.U.vm = t.vm ∧ XC E (A.U.calling g mk a) t ∧ t.heap[q]? = some ce ∧ ce.vm = .none ∧ A.U.vm.findClass E = some ce.cls ∧ B.locs = A.locs ++ L ∧ (∀ z ∈ L, free z.base) ∧ B.cells = A.cells + mc ∧ B.slots = A.slots + ms
def vx_Back (l : Launch) (R : Room) (p : Program) (e : Env) (below : List Frame) (s : State) (sargs : Array Value) (y : MethodName) (len W9 : Nat)
    (Pre : Pt → Array Value → Prop) (Post : Pt → Array Value → Option Value → Pt → Prop) (PostX : Pt → Array Value → Addr → Pt → Prop) : Prop :=
  ∀ (m : MethodId) (meth : Method) (c : Code) (A : Pt) (g : JFrame) (ig : Instr) (mk : MethodId) (a : Array Value),
    Stand p l e R s m sargs below meth c A.U A.locs A.cells A.slots → g.method = m → g.locals.size = c.maxLocals → decode c.code g.pc = .ok (ig, len) →
    2 * g.monitorRoom + (g.stack.map fun v => v.category).sum ≤ W9 → A.U.methodNamed? y = some mk → Pre A a →
    (∃ (v : Option Value) (B : Pt), Stand p l e R s m sargs below meth c B.U B.locs B.cells B.slots ∧ Post A a v B ∧
      Steps p.tables e below (doInvoke e (A.U.setTop g) [] mk a).1 (B.U.setTop { g with pc := g.pc + len, stack := v.toList ++ g.stack })) ∨
    (∃ (q : Addr) (B : Pt), Stand p l e R s m sargs below meth c B.U B.locs B.cells B.slots ∧ PostX A a q B ∧
      Steps p.tables e below (doInvoke e (A.U.setTop g) [] mk a).1 ((B.U.setTop g).pushFrame (.throwing q)))
section Payer
variable {l : Launch} {R : Room} {p : Program} {e : Env} {below : List Frame} {s : State} {sargs : Array Value} {y : MethodName} {len W9 : Nat}
theorem vx_back {ws : List Cond} {rm : Room} {Pc : Array Value → State → Prop} {Qc : Array Value → State → Outcome → State → Prop} {XC : String → State → State → Prop} {mc ms : Nat} {free : Addr → Prop} {bytes : ByteArray} {maxL : Nat} {ret : Option FieldType}
    (hM : vx_Met l y ws rm Pc Qc XC mc ms free) (hblind : FrameBlind Pc) (hrc : rm.cells = mc) (hrs : rm.slots = ms)
    (hframes : rm.frames + 1 ≤ R.frames) (hlocals : W9 + (maxL + 11) + rm.locals ≤ R.locals)
    (hws : ∀ w ∈ ws, ∀ a' U, s.WarmedH U.vm → w.before a' U = true) (hcode : Cond.code y bytes maxL ret ∈ ws) (hinit : ∀ a' U, s.WarmedH U.vm → (Cond.initialized y.cls).before a' U = true) :
    vx_Back l R p e below s sargs y len W9 (PreOf R mc ms Pc) (PostOf Qc mc ms free) (vx_Post XC mc ms free) := by
  intro m meth c A g ig mk a X hg hsize hdg hW hn hp
  have h1 : (headSpec ws rm).pre.before a A.U = true := atoms_intro fun w hw => hws w hw _ _ X.warmed
  have h2 : (Cond.code y bytes maxL ret).before a A.U = true := hws _ hcode _ _ X.warmed
  have h3 : (Cond.initialized y.cls).before a A.U = true := hinit _ _ X.warmed
  have h4 : A.cells + (headSpec ws rm).room.cells ≤ R.cells := by rw [show (headSpec ws rm).room.cells = mc from hrc]; exact hp.1
  have h5 : A.slots + (headSpec ws rm).room.slots ≤ R.slots := by rw [show (headSpec ws rm).room.slots = ms from hrs]; exact hp.2.1
  have hPc : Pc a (A.U.calling g mk a) := hblind _ _ _ _ hp.2.2
  obtain ⟨U, Ls, c0, s0⟩ := A
  dsimp only [Pt.U, Pt.locs, Pt.cells, Pt.slots] at h1 h2 h3 h4 h5 X hn hPc ⊢
  obtain ⟨methY, cY, hmY, hcY, -, hlY, -, -, -, -⟩ := Cond.code_spec hn h2
  obtain ⟨kY, hkY, -⟩ := className_of_methodNamed hn
  have hinitY : kY.init = .initialized := Cond.initialized_spec (findClass_of_methodNamed hn) hkY h3
  have h : At U g.method c below := by rw [hg]; exact X.here
  have hlocals9 : W9 + (maxL + 11) + (headSpec ws rm).room.locals ≤ R.locals := hlocals
  have happ : (headSpec ws rm).appliesLoose y e.platform (U.calling g mk a) = true :=
    Spec.appliesLoose_calling (g := g) h hdg hn hkY hinitY
      (X.room_calling (g := g) (R' := (headSpec ws rm).room) hsize hmY hcY hframes (by rw [hlY]; omega) h4 h5) h1
  obtain ⟨mid, hmid⟩ := h.above
  have hfr : (U.setTop g).frames = (.java g :: mid) ++ below := by rw [State.frames_setTop' g h.top, hmid]; rfl
  obtain ⟨o, s₂, hsteps, -, hend, hq⟩ := Steps.callFree hM p X.admits X.cas X.clock (acts := []) hfr happ hPc trivial
  have hq' : vx_Q Qc XC mc ms free a (U.calling g mk a) o s₂ := hq
  rw [State.frames_setTop' g h.top] at hend
  obtain ⟨g₀, hg0⟩ := Option.isSome_iff_exists.mp h.top
  obtain ⟨r, hr⟩ := State.topJava?_eq_some.mp hg0
  have hr' : (({ U with heap := s₂.heap, slotsUsed := s₂.slotsUsed } : State).setVm s₂.vm).frames = .java g₀ :: r := hr
  rcases hq' with ⟨hqc, L, hfe, hL⟩ | ⟨q, rfl, E, ce, L, hx, hce, hcv, hcl, hW₂, hsm, hL⟩
  · obtain ⟨⟨v, rfl⟩, hW₂, e2, q2, q3, q4, q5, q6⟩ := id hfe
    have e3 : s₂ = ({ (U.calling g mk a).setFrames s₂.frames with heap := s₂.heap, slotsUsed := s₂.slotsUsed } : State).setVm s₂.vm := by
      have : s₂ = ({ s₂ with vm := (U.calling g mk a).vm } : State).setVm s₂.vm := rfl
      rw [e2] at this
      exact this
    obtain ⟨c₂, i₂, len₂, hc₂, hd₂, hf₂⟩ := hend
    have hW' : U.WarmedH s₂.vm := hW₂
    have hcc : c₂ = c := by
      have h1 : s₂.code? g.method = U.code? g.method := by
        rw [State.code?_eq, State.code?_eq, hW'.alike.method?]
      exact Option.some.inj (hc₂.symm.trans (h1.trans h.code))
    subst hcc
    have hlen : len₂ = len := by rw [hdg] at hd₂; cases hd₂; rfl
    subst hlen
    have hs₂ : s₂ = (({ U with heap := s₂.heap, slotsUsed := s₂.slotsUsed } : State).setVm s₂.vm).setTop { g with pc := g.pc + len₂, stack := v.toList ++ g.stack } := by
      refine e3.trans ?_
      rw [hf₂, State.calling_eq h.top, State.setFrames_setFrames, State.setTop_of_frames _ hr', hr]
      rfl
    have hsame : U.sameButNew ({ U with heap := s₂.heap, slotsUsed := s₂.slotsUsed } : State) L mc ms := by
      refine ⟨?_, q2, q3, q4, q5, q6⟩
      obtain ⟨t, ht, -⟩ := State.frames_cons hr
      show ({ U with heap := s₂.heap, slotsUsed := s₂.slotsUsed } : State) = { U.setFrames U.frames with heap := s₂.heap, slotsUsed := s₂.slotsUsed }
      rw [State.setFrames_self ht]
    subst hg
    refine Or.inl ⟨v, ⟨(({ U with heap := s₂.heap, slotsUsed := s₂.slotsUsed } : State).setVm s₂.vm), Ls ++ L, c0 + mc, s0 + ms⟩,
      ⟨X.admits, X.cas, X.clock, X.frames, X.room, X.hears, X.method, X.code, (X.here.setHeapUsed s₂.heap s₂.slotsUsed).setVm hW'.alike, X.tail, State.WarmedH.trans X.warmed hW', X.limits, X.bytes, X.same.trans (hsame.setVm s.vm)⟩,
      ⟨g, mk, s₂, L, rfl, rfl, hqc, rfl, hL, rfl, rfl⟩, ?_⟩
    show Steps p.tables e below _ ((({ U with heap := s₂.heap, slotsUsed := s₂.slotsUsed } : State).setVm s₂.vm).setTop { g with pc := g.pc + len₂, stack := v.toList ++ g.stack })
    rw [← hs₂]
    exact hsteps
  · obtain ⟨e2, q2, q3, q4, q5, q6⟩ := id hsm
    have e3 : s₂ = ({ (U.calling g mk a).setFrames s₂.frames with heap := s₂.heap, slotsUsed := s₂.slotsUsed } : State).setVm s₂.vm := by
      have : s₂ = ({ s₂ with vm := (U.calling g mk a).vm } : State).setVm s₂.vm := rfl
      rw [e2] at this
      exact this
    have hf₂ : s₂.frames = .throwing q :: .java g :: U.frames.tail := hend
    have hW' : U.WarmedH s₂.vm := hW₂
    have hs₂ : s₂ = ((({ U with heap := s₂.heap, slotsUsed := s₂.slotsUsed } : State).setVm s₂.vm).setTop g).pushFrame (.throwing q) := by
      refine e3.trans ?_
      rw [hf₂, State.calling_eq h.top, State.setFrames_setFrames, State.pushFrame, State.frames_setTop _ hr', State.setTop_of_frames _ hr', State.setFrames_setFrames, hr]
      rfl
    have hsame : U.sameButNew ({ U with heap := s₂.heap, slotsUsed := s₂.slotsUsed } : State) L mc ms := by
      refine ⟨?_, q2, q3, q4, q5, q6⟩
      obtain ⟨t, ht, -⟩ := State.frames_cons hr
      show ({ U with heap := s₂.heap, slotsUsed := s₂.slotsUsed } : State) = { U.setFrames U.frames with heap := s₂.heap, slotsUsed := s₂.slotsUsed }
      rw [State.setFrames_self ht]
    subst hg
    refine Or.inr ⟨q, ⟨(({ U with heap := s₂.heap, slotsUsed := s₂.slotsUsed } : State).setVm s₂.vm), Ls ++ L, c0 + mc, s0 + ms⟩,
      ⟨X.admits, X.cas, X.clock, X.frames, X.room, X.hears, X.method, X.code, (X.here.setHeapUsed s₂.heap s₂.slotsUsed).setVm hW'.alike, X.tail, State.WarmedH.trans X.warmed hW', X.limits, X.bytes, X.same.trans (hsame.setVm s.vm)⟩,
      ⟨g, mk, s₂, L, E, ce, rfl, rfl, hx, hce, hcv, hcl, rfl, hL, rfl, rfl⟩, ?_⟩
    show Steps p.tables e below _ (((({ U with heap := s₂.heap, slotsUsed := s₂.slotsUsed } : State).setVm s₂.vm).setTop g).pushFrame (.throwing q))
    rw [← hs₂]
    exact hsteps
end Payer
section Calls
variable {p : Program} {l : Launch} {e : Env} {R : Room} {s : State} {m : MethodId} {args : Array Value} {below : List Frame} {meth : Method} {c : Code} {T : State} {locs : List Loc} {cells slots : Nat}
theorem vx_callV (X : Stand p l e R s m args below meth c T locs cells slots) (hexec : p.tables.exec = Jvm.exec) {own C : String} {index : Nat} {y : MethodName} {bytes : ByteArray} {maxL : Nat} {ret : Option FieldType}
    (hown : s.vm.findClass own = some m.cls) (hlink : (Cond.methodLink own index y).before args s = true) (hinst : (Cond.instanceMethod y).before args s = true) (hsel : (Cond.selects C y y).before args s = true)
    (hcode : (Cond.code y bytes maxL ret).before args s = true) (hy : y.cls ≠ "java/lang/invoke/MethodHandle" ∧ y.cls ≠ "java/lang/invoke/VarHandle")
    {W9 : Nat} {Pre : Pt → Array Value → Prop} {Post : Pt → Array Value → Option Value → Pt → Prop} {PostX : Pt → Array Value → Addr → Pt → Prop} (hK : vx_Back l R p e below s args y 3 W9 Pre Post PostX)
    {b : Addr} {cellB : Cell} (hcell : T.heap[b]? = some cellB) (hobj : cellB.vm.isStatics = false) (hcls : s.vm.findClass C = some cellB.cls)
    {g : JFrame} (hg : g.method = m) (hsize : g.locals.size = c.maxLocals) {argsL rest : List Value} (hlen : ∀ sig, parseMethodDescriptor y.desc = some sig → argsL.length = sig.parameters.length)
    (hstack : g.stack = argsL.reverse ++ .ref b :: rest) (hW : 2 * g.monitorRoom + (rest.map fun v => v.category).sum ≤ W9) (hdg : decode c.code g.pc = .ok (.invokevirtual index, 3))
    (hpre : ∀ vm₁, s.WarmedH vm₁ → Pre ⟨T.setVm vm₁, locs, cells, slots⟩ (Value.ref b :: argsL).toArray) :
    (∃ (v : Option Value) (vm₁ : Vm) (B : Pt), s.WarmedH vm₁ ∧ Stand p l e R s m args below meth c B.U B.locs B.cells B.slots ∧ Post ⟨T.setVm vm₁, locs, cells, slots⟩ (Value.ref b :: argsL).toArray v B ∧
      ∀ target, Steps p.tables e below (B.U.setTop { g with pc := g.pc + 3, stack := v.toList ++ rest }) target → Steps p.tables e below (T.setTop g) target) ∨
    (∃ (q : Addr) (vm₁ : Vm) (B : Pt), s.WarmedH vm₁ ∧ Stand p l e R s m args below meth c B.U B.locs B.cells B.slots ∧ PostX ⟨T.setVm vm₁, locs, cells, slots⟩ (Value.ref b :: argsL).toArray q B ∧
      Steps p.tables e below (T.setTop g) ((B.U.setTop { g with stack := rest }).pushFrame (.throwing q))) := by
  obtain ⟨mk, methM, hnamed, hmethM, hstM, habM⟩ := Cond.instanceMethod_spec hinst
  obtain ⟨methM', cM, hmethM', -, -, -, -, -, -, hsigM⟩ := Cond.code_spec hnamed hcode
  cases hmethM.symm.trans hmethM'
  obtain ⟨c2, r2, m2, q1, q2, q3, q4, kP, hkP, hkPi⟩ := Cond.selects_spec hsel
  cases hcls.symm.trans q1
  cases (State.methodFound?_of_named hnamed hy).symm.trans q2
  cases hnamed.symm.trans q3
  have hselP : selectMethod e.platform s.vm cellB.cls mk = .method mk := by rw [Launch.admits_selectMethod X.admits]; exact q4
  obtain ⟨vm₁, X₁, hstep₁⟩ := X.invokevirtual hexec hown hlink hnamed hmethM hstM hkP hkPi hy (a := b) (cell := cellB) hcell
    (fun z h => by rw [h] at hobj; cases hobj) hselP hmethM habM hkP hkPi (g := g) hg (argsL := argsL) (rest := rest) (hlen _ hsigM) hstack hdg
  rcases hK m meth c ⟨T.setVm vm₁, locs, cells, slots⟩ { g with stack := rest } (.invokevirtual index) mk (Value.ref b :: argsL).toArray X₁ hg hsize hdg hW (X₁.named hnamed) (hpre vm₁ X₁.warmed) with ⟨v, B, X', hpost, hsteps⟩ | ⟨q, B, X', hpost, hsteps⟩
  · exact Or.inl ⟨v, vm₁, B, X₁.warmed, X', hpost, fun target h => hstep₁ _ fun acts => by rw [doInvoke_state]; exact hsteps.trans h⟩
  · exact Or.inr ⟨q, vm₁, B, X₁.warmed, X', hpost, hstep₁ _ fun acts => by rw [doInvoke_state]; exact hsteps⟩
theorem vx_callS (X : Stand p l e R s m args below meth c T locs cells slots) (hexec : p.tables.exec = Jvm.exec) {own : String} {index : Nat} {y : MethodName} {bytes : ByteArray} {maxL : Nat} {ret : Option FieldType}
    (hown : s.vm.findClass own = some m.cls) (hlink : (Cond.methodLink own index y).before args s = true) (hstat : (Cond.static y).before args s = true) (hinit : (Cond.initialized y.cls).before args s = true)
    (hcode : (Cond.code y bytes maxL ret).before args s = true) (hy : y.cls ≠ "java/lang/invoke/MethodHandle" ∧ y.cls ≠ "java/lang/invoke/VarHandle")
    {W9 : Nat} {Pre : Pt → Array Value → Prop} {Post : Pt → Array Value → Option Value → Pt → Prop} {PostX : Pt → Array Value → Addr → Pt → Prop} (hK : vx_Back l R p e below s args y 3 W9 Pre Post PostX)
    {g : JFrame} (hg : g.method = m) (hsize : g.locals.size = c.maxLocals) {argsL rest : List Value} (hlen : ∀ sig, parseMethodDescriptor y.desc = some sig → argsL.length = sig.parameters.length)
    (hstack : g.stack = argsL.reverse ++ rest) (hW : 2 * g.monitorRoom + (rest.map fun v => v.category).sum ≤ W9) (hdg : decode c.code g.pc = .ok (.invokestatic index, 3))
    (hpre : ∀ vm₁, s.WarmedH vm₁ → Pre ⟨T.setVm vm₁, locs, cells, slots⟩ argsL.toArray) :
    (∃ (v : Option Value) (vm₁ : Vm) (B : Pt), s.WarmedH vm₁ ∧ Stand p l e R s m args below meth c B.U B.locs B.cells B.slots ∧ Post ⟨T.setVm vm₁, locs, cells, slots⟩ argsL.toArray v B ∧
      ∀ target, Steps p.tables e below (B.U.setTop { g with pc := g.pc + 3, stack := v.toList ++ rest }) target → Steps p.tables e below (T.setTop g) target) ∨
    (∃ (q : Addr) (vm₁ : Vm) (B : Pt), s.WarmedH vm₁ ∧ Stand p l e R s m args below meth c B.U B.locs B.cells B.slots ∧ PostX ⟨T.setVm vm₁, locs, cells, slots⟩ argsL.toArray q B ∧
      Steps p.tables e below (T.setTop g) ((B.U.setTop { g with stack := rest }).pushFrame (.throwing q))) := by
  obtain ⟨mk, hnamed⟩ := Cond.code_named hcode
  obtain ⟨methM, cM, hmethM, -, -, -, -, -, -, hsigM⟩ := Cond.code_spec hnamed hcode
  have hstatic : methM.isStatic = true := Cond.static_spec hnamed hmethM hstat
  obtain ⟨kP, hkP, -⟩ := className_of_methodNamed hnamed
  have hinitP : kP.init = .initialized := Cond.initialized_spec (findClass_of_methodNamed hnamed) hkP hinit
  obtain ⟨vm₁, X₁, hstep₁⟩ := X.invokestatic hexec hown hlink hnamed hmethM hstatic hkP hinitP hy (g := g) hg (argsL := argsL) (rest := rest) (hlen _ hsigM) hstack hdg
  rcases hK m meth c ⟨T.setVm vm₁, locs, cells, slots⟩ { g with stack := rest } (.invokestatic index) mk argsL.toArray X₁ hg hsize hdg hW (X₁.named hnamed) (hpre vm₁ X₁.warmed) with ⟨v, B, X', hpost, hsteps⟩ | ⟨q, B, X', hpost, hsteps⟩
  · exact Or.inl ⟨v, vm₁, B, X₁.warmed, X', hpost, fun target h => hstep₁ _ fun acts => by rw [doInvoke_state]; exact hsteps.trans h⟩
  · exact Or.inr ⟨q, vm₁, B, X₁.warmed, X', hpost, hstep₁ _ fun acts => by rw [doInvoke_state]; exact hsteps⟩
end Calls
theorem vx_cls {s : State} {T : State} {vm₁ : Vm} {E : String} {k : ClassId} (hW : s.WarmedH vm₁) (h : (T.setVm vm₁).vm.findClass E = some k) : s.vm.findClass E = some k := by
  have h1 : vm₁.findClass E = some k := h
  rw [hW.alike.findClass] at h1
  exact h1
/-- the method's frame g, with q thrown over it -/
def vx_W (p : Program) (l : Launch) (e : Env) (R : Room) (s : State) (m : MethodId) (args : Array Value) (below : List Frame) (meth : Method) (c : Code) (H : Heap) (locs : List Loc) (cells slots : Nat) (Q : State → Prop) (g : JFrame) (q : Addr) : Prop :=
  ∀ T : State, T.heap = H → Stand p l e R s m args below meth c T locs cells slots → ∃ t, Steps p.tables e below ((T.setTop g).pushFrame (.throwing q)) t ∧ Q t
def vx_Run (p : Program) (l : Launch) (e : Env) (R : Room) (s : State) (m : MethodId) (args : Array Value) (below : List Frame) (meth : Method) (c : Code) (H : Heap) (locs : List Loc) (cells slots mc ms : Nat) (g : JFrame) (rest : List Value) (Qa : State → Outcome → State → Prop) (XC : String → State → State → Prop) (free : Addr → Prop) : Prop :=
  ∀ T : State, T.heap = H → Stand p l e R s m args below meth c T locs cells slots →
    (∃ (v : Option Value) (st₀ t T' : State) (L : List Loc), st₀.heap = H ∧ Stand p l e R s m args below meth c T' (locs ++ L) (cells + mc) (slots + ms) ∧ (∀ q ∈ L, free q.base) ∧ T'.heap = t.heap ∧ T'.vm = t.vm ∧ Qa st₀ (.returned v) t ∧
      Goes p e below T g T' { g with pc := g.pc + 3, stack := v.toList ++ rest }) ∨
    (∃ (q : Addr) (st₀ t T' : State) (L : List Loc) (E : String) (ce : Cell), st₀.heap = H ∧ Stand p l e R s m args below meth c T' (locs ++ L) (cells + mc) (slots + ms) ∧ (∀ z ∈ L, free z.base) ∧ T'.heap = t.heap ∧ T'.vm = t.vm ∧ XC E st₀ t ∧ t.heap[q]? = some ce ∧ ce.vm = .none ∧ s.vm.findClass E = some ce.cls ∧
      Steps p.tables e below (T.setTop g) ((T'.setTop { g with stack := rest }).pushFrame (.throwing q)))
def vx_X {S : Type} (px : S → Prop) (B : String → S → State → Prop) (A : Nat → Prop) : String → State → State → Prop := fun E st t => ∃ u : S, px u ∧ B E u t ∧ va_F A st t
section Runs
variable {p : Program} {l : Launch} {e : Env} {R : Room} {s : State} {m : MethodId} {args : Array Value} {below : List Frame} {meth : Method} {c : Code} {H : Heap} {locs : List Loc} {cells slots : Nat}
variable {y : MethodName} {bytes cc : ByteArray} {maxL nL mc ms n index : Nat} {ret : Option FieldType} {ws : List Cond} {rm : Room} {Pc : Array Value → State → Prop} {Qc : Array Value → State → Outcome → State → Prop} {XC : String → State → State → Prop} {free : Addr → Prop} {Ts : List Cond} {own C : String} {b : Addr} {As rest : List Value} {g : JFrame}
theorem vx_callBack (cb : CallB R s args own index y bytes maxL ret ws rm mc ms n) (hM : vx_Met l y ws rm Pc Qc XC mc ms free) (hbl : FrameBlind Pc) : vx_Back l R p e below s args y 3 8 (PreOf R mc ms Pc) (PostOf Qc mc ms free) (vx_Post XC mc ms free) := by
  obtain ⟨hrc, hrs, hfr, hlo, hws, hcw, -, hini, -⟩ := cb
  exact vx_back (bytes := bytes) (maxL := maxL) (ret := ret) hM hbl hrc hrs hfr hlo hws hcw (fun a' U hW => word_at hW (Or.inl (by first | rfl | simp [Cond.onTables, Cond.keeps, Cond.steady])) hini)
theorem vx_runV (S : CallFix p m c cc nL s args Ts own) (hM : vx_Met l y ws rm Pc Qc XC mc ms free) (cw : CallW R s args own C index y bytes maxL ret ws rm mc ms n) (hp : PreV s H C b Pc As)
    (hg : g.method = m) (hn : As.length = n) (hsize : g.locals.size = nL) (hstack : g.stack = As.reverse ++ .ref b :: rest) (hW : 2 * g.monitorRoom + (rest.map fun v => v.category).sum ≤ 8) (hdg : decode cc g.pc = .ok (.invokevirtual index, 3)) (hf : cells + mc ≤ R.cells ∧ slots + ms ≤ R.slots) :
    vx_Run p l e R s m args below meth c H locs cells slots mc ms g rest (Qc (Value.ref b :: As).toArray) XC free := by
  have hK : vx_Back l R p e below s args y 3 8 (PreOf R mc ms Pc) (PostOf Qc mc ms free) (vx_Post XC mc ms free) := vx_callBack cw.1 hM hp.1
  obtain ⟨⟨-, -, -, -, -, -, hcode, -, hy, hlen, hl⟩, hin, hse⟩ := cw
  obtain ⟨hx, hb, hml, ho, -⟩ := S
  obtain ⟨-, ⟨cellB, hcB, hoB, hclB⟩, hPc⟩ := hp
  intro T hT X
  rcases vx_callV X hx (C := C) (bytes := bytes) (maxL := maxL) (ret := ret) ho hl hin hse hcode hy hK (by rw [hT]; exact hcB) hoB hclB hg (hsize.trans hml.symm) (argsL := As) (rest := rest) (fun sig h => hn.trans (hlen sig h)) hstack hW (by rw [hb]; exact hdg)
    (fun vm₁ hW₁ => ⟨hf.1, hf.2, hPc (T.setVm vm₁) hT hW₁⟩) with ⟨v, vm₁, ⟨U', l2, c2, s2⟩, hW₁, X', ⟨g', mk, t, L, e1, e2, hq, h1, hL, h2, h3⟩, st⟩ | ⟨q, vm₁, ⟨U', l2, c2, s2⟩, hW₁, X', ⟨g', mk, t, L, E, ce, e1, e2, hq, hce, hcv, hcl, h1, hL, h2, h3⟩, st⟩
  · dsimp only [Pt.U, Pt.locs, Pt.cells, Pt.slots] at X' e1 e2 h1 h2 h3 st
    subst h1; subst h2; subst h3
    exact Or.inl ⟨v, (T.setVm vm₁).calling g' mk (Value.ref b :: As).toArray, t, U', L, hT, X', hL, e1, e2, hq, st⟩
  · dsimp only [Pt.U, Pt.locs, Pt.cells, Pt.slots] at X' e1 e2 h1 h2 h3 st hcl
    subst h1; subst h2; subst h3
    exact Or.inr ⟨q, (T.setVm vm₁).calling g' mk (Value.ref b :: As).toArray, t, U', L, E, ce, hT, X', hL, e1, e2, hq, hce, hcv, vx_cls hW₁ hcl, st⟩
theorem vx_runS (S : CallFix p m c cc nL s args Ts own) (hM : vx_Met l y ws rm Pc Qc XC mc ms free) (cw : CallB R s args own index y bytes maxL ret ws rm mc ms n ∧ (Cond.static y).before args s = true) (hp : PreS s H Pc As)
    (hg : g.method = m) (hn : As.length = n) (hsize : g.locals.size = nL) (hstack : g.stack = As.reverse ++ rest) (hW : 2 * g.monitorRoom + (rest.map fun v => v.category).sum ≤ 8) (hdg : decode cc g.pc = .ok (.invokestatic index, 3)) (hf : cells + mc ≤ R.cells ∧ slots + ms ≤ R.slots) :
    vx_Run p l e R s m args below meth c H locs cells slots mc ms g rest (Qc As.toArray) XC free := by
  have hK : vx_Back l R p e below s args y 3 8 (PreOf R mc ms Pc) (PostOf Qc mc ms free) (vx_Post XC mc ms free) := vx_callBack cw.1 hM hp.1
  obtain ⟨⟨-, -, -, -, -, -, hcode, hini, hy, hlen, hl⟩, hstt⟩ := cw
  obtain ⟨hx, hb, hml, ho, -⟩ := S
  intro T hT X
  rcases vx_callS X hx (bytes := bytes) (maxL := maxL) (ret := ret) ho hl hstt hini hcode hy hK hg (hsize.trans hml.symm) (argsL := As) (rest := rest) (fun sig h => hn.trans (hlen sig h)) hstack hW (by rw [hb]; exact hdg)
    (fun vm₁ hW₁ => ⟨hf.1, hf.2, hp.2 (T.setVm vm₁) hT hW₁⟩) with ⟨v, vm₁, ⟨U', l2, c2, s2⟩, hW₁, X', ⟨g', mk, t, L, e1, e2, hq, h1, hL, h2, h3⟩, st⟩ | ⟨q, vm₁, ⟨U', l2, c2, s2⟩, hW₁, X', ⟨g', mk, t, L, E, ce, e1, e2, hq, hce, hcv, hcl, h1, hL, h2, h3⟩, st⟩
  · dsimp only [Pt.U, Pt.locs, Pt.cells, Pt.slots] at X' e1 e2 h1 h2 h3 st
    subst h1; subst h2; subst h3
    exact Or.inl ⟨v, (T.setVm vm₁).calling g' mk As.toArray, t, U', L, hT, X', hL, e1, e2, hq, st⟩
  · dsimp only [Pt.U, Pt.locs, Pt.cells, Pt.slots] at X' e1 e2 h1 h2 h3 st hcl
    subst h1; subst h2; subst h3
    exact Or.inr ⟨q, (T.setVm vm₁).calling g' mk As.toArray, t, U', L, E, ce, hT, X', hL, e1, e2, hq, hce, hcv, vx_cls hW₁ hcl, st⟩
end Runs
section Rows
variable {p : Program} {l : Launch} {e : Env} {R : Room} {s : State} {m : MethodId} {args : Array Value} {below : List Frame} {meth : Method} {c : Code} {H : Heap} {locs : List Loc} {cells slots : Nat} {Q : State → Prop}
variable {mc ms : Nat} {free : Addr → Prop} {A0 A1 : Nat → Prop} {H0 : Heap} {a : Array Value} {pc : Nat} {ls : Array Slot} {st0 rest : List Value}
theorem vx_keep {st₀ t T' : State} {L : List Loc} (h0 : st₀.heap = H) (e1 : T'.heap = t.heap) (hS : va_S A0 H0 H locs) (hA : ∀ q, q < H.size → A1 q → A0 q) (hf : ∀ q, free q → A0 q) (hL : ∀ q ∈ L, free q.base) (hF : va_F A1 st₀ t) :
    H.size ≤ T'.heap.size ∧ (∀ q : Nat, q < H.size → ¬ A1 q → T'.heap[q]? = H[q]?) ∧ va_S A0 H0 T'.heap (locs ++ L) := by
  obtain ⟨hz, hk⟩ := hF
  rw [h0] at hz hk
  exact ⟨by rw [e1]; exact hz, fun q h1 h2 => by rw [e1]; exact hk q h1 h2,
    ⟨Nat.le_trans hS.1 (by rw [e1]; exact hz), fun q h1 h2 => by rw [e1, hk q (Nat.lt_of_lt_of_le h1 hS.1) (fun z => h2 (hA q (Nat.lt_of_lt_of_le h1 hS.1) z))]; exact hS.2.1 q h1 h2, fun q hq => by
      rcases List.mem_append.mp hq with h | h
      · exact hS.2.2 q h
      · exact hf _ (hL q h)⟩⟩
theorem vx_calli {S SX : Type} {post : Int32 → S → Prop} {px : SX → Prop} {B : S → State → Prop} {BX : String → SX → State → Prop} {AX : Nat → Prop} (hr : vx_Run p l e R s m args below meth c H locs cells slots mc ms (F0 m pc ls st0) rest (va_Qi post B A1 a) (vx_X px BX AX) free) (hS : va_S A0 H0 H locs) (hA : ∀ q, q < H.size → A1 q → A0 q) (hf : ∀ q, free q → A0 q) (hAX : ∀ q, q < H.size → AX q → A0 q)
    (kx : ∀ (E : String) (ce : Cell) (q9 : Addr) (u : SX) (t : State) (H1 : Heap) (locs1 : List Loc), t.heap = H1 → s.vm.Alike t.vm → px u → BX E u t → H.size ≤ H1.size → (∀ q : Nat, q < H.size → ¬ AX q → H1[q]? = H[q]?) → va_S A0 H0 H1 locs1 → H1[q9]? = some ce → ce.vm = .none → s.vm.findClass E = some ce.cls → vx_W p l e R s m args below meth c H1 locs1 (cells + mc) (slots + ms) Q (F0 m pc ls rest) q9)
    (kk : ∀ (r : Int32) (u : S) (t : State) (H1 : Heap) (locs1 : List Loc), t.heap = H1 → s.vm.Alike t.vm → post r u → B u t → H.size ≤ H1.size → (∀ q : Nat, q < H.size → ¬ A1 q → H1[q]? = H[q]?) → va_S A0 H0 H1 locs1 → W p l e R s m args below meth c H1 locs1 (cells + mc) (slots + ms) Q (F0 m (pc + 3) ls (.int r :: rest))) : W p l e R s m args below meth c H locs cells slots Q (F0 m pc ls st0) := by
  intro T hT X
  rcases hr T hT X with ⟨v, st₀, t, T', L, h0, X', hL, e1, e2, ⟨⟨r, u, hv, hp, hb⟩, hF⟩, st⟩ | ⟨q, st₀, t, T', L, E, ce, h0, X', hL, e1, e2, ⟨u, hp, hb, hF⟩, hce, hcv, hcl, st⟩
  · cases hv
    obtain ⟨k1, k2, k3⟩ := vx_keep h0 e1 hS hA hf hL hF
    obtain ⟨t2, a1, b1⟩ := kk r u t T'.heap (locs ++ L) e1.symm (by rw [← e2]; exact X'.warmed.alike) hp hb k1 k2 k3 T' rfl X'
    exact ⟨t2, st t2 a1, b1⟩
  · obtain ⟨k1, k2, k3⟩ := vx_keep h0 e1 hS hAX hf hL hF
    obtain ⟨t2, a1, b1⟩ := kx E ce q u t T'.heap (locs ++ L) e1.symm (by rw [← e2]; exact X'.warmed.alike) hp hb k1 k2 k3 (by rw [e1]; exact hce) hcv hcl T' rfl X'
    exact ⟨t2, st.trans a1, b1⟩
theorem vx_calll {S SX : Type} {post : Int64 → S → Prop} {px : SX → Prop} {B : S → State → Prop} {BX : String → SX → State → Prop} {AX : Nat → Prop} (hr : vx_Run p l e R s m args below meth c H locs cells slots mc ms (F0 m pc ls st0) rest (va_Ql post B A1 a) (vx_X px BX AX) free) (hS : va_S A0 H0 H locs) (hA : ∀ q, q < H.size → A1 q → A0 q) (hf : ∀ q, free q → A0 q) (hAX : ∀ q, q < H.size → AX q → A0 q)
    (kx : ∀ (E : String) (ce : Cell) (q9 : Addr) (u : SX) (t : State) (H1 : Heap) (locs1 : List Loc), t.heap = H1 → s.vm.Alike t.vm → px u → BX E u t → H.size ≤ H1.size → (∀ q : Nat, q < H.size → ¬ AX q → H1[q]? = H[q]?) → va_S A0 H0 H1 locs1 → H1[q9]? = some ce → ce.vm = .none → s.vm.findClass E = some ce.cls → vx_W p l e R s m args below meth c H1 locs1 (cells + mc) (slots + ms) Q (F0 m pc ls rest) q9)
    (kk : ∀ (r : Int64) (u : S) (t : State) (H1 : Heap) (locs1 : List Loc), t.heap = H1 → s.vm.Alike t.vm → post r u → B u t → H.size ≤ H1.size → (∀ q : Nat, q < H.size → ¬ A1 q → H1[q]? = H[q]?) → va_S A0 H0 H1 locs1 → W p l e R s m args below meth c H1 locs1 (cells + mc) (slots + ms) Q (F0 m (pc + 3) ls (.long r :: rest))) : W p l e R s m args below meth c H locs cells slots Q (F0 m pc ls st0) := by
  intro T hT X
  rcases hr T hT X with ⟨v, st₀, t, T', L, h0, X', hL, e1, e2, ⟨⟨r, u, hv, hp, hb⟩, hF⟩, st⟩ | ⟨q, st₀, t, T', L, E, ce, h0, X', hL, e1, e2, ⟨u, hp, hb, hF⟩, hce, hcv, hcl, st⟩
  · cases hv
    obtain ⟨k1, k2, k3⟩ := vx_keep h0 e1 hS hA hf hL hF
    obtain ⟨t2, a1, b1⟩ := kk r u t T'.heap (locs ++ L) e1.symm (by rw [← e2]; exact X'.warmed.alike) hp hb k1 k2 k3 T' rfl X'
    exact ⟨t2, st t2 a1, b1⟩
  · obtain ⟨k1, k2, k3⟩ := vx_keep h0 e1 hS hAX hf hL hF
    obtain ⟨t2, a1, b1⟩ := kx E ce q u t T'.heap (locs ++ L) e1.symm (by rw [← e2]; exact X'.warmed.alike) hp hb k1 k2 k3 (by rw [e1]; exact hce) hcv hcl T' rfl X'
    exact ⟨t2, st.trans a1, b1⟩
theorem vx_callf {S SX : Type} {post : UInt32 → S → Prop} {px : SX → Prop} {B : S → State → Prop} {BX : String → SX → State → Prop} {AX : Nat → Prop} (hr : vx_Run p l e R s m args below meth c H locs cells slots mc ms (F0 m pc ls st0) rest (va_Qf post B A1 a) (vx_X px BX AX) free) (hS : va_S A0 H0 H locs) (hA : ∀ q, q < H.size → A1 q → A0 q) (hf : ∀ q, free q → A0 q) (hAX : ∀ q, q < H.size → AX q → A0 q)
    (kx : ∀ (E : String) (ce : Cell) (q9 : Addr) (u : SX) (t : State) (H1 : Heap) (locs1 : List Loc), t.heap = H1 → s.vm.Alike t.vm → px u → BX E u t → H.size ≤ H1.size → (∀ q : Nat, q < H.size → ¬ AX q → H1[q]? = H[q]?) → va_S A0 H0 H1 locs1 → H1[q9]? = some ce → ce.vm = .none → s.vm.findClass E = some ce.cls → vx_W p l e R s m args below meth c H1 locs1 (cells + mc) (slots + ms) Q (F0 m pc ls rest) q9)
    (kk : ∀ (r : UInt32) (u : S) (t : State) (H1 : Heap) (locs1 : List Loc), t.heap = H1 → s.vm.Alike t.vm → post r u → B u t → H.size ≤ H1.size → (∀ q : Nat, q < H.size → ¬ A1 q → H1[q]? = H[q]?) → va_S A0 H0 H1 locs1 → W p l e R s m args below meth c H1 locs1 (cells + mc) (slots + ms) Q (F0 m (pc + 3) ls (.float r :: rest))) : W p l e R s m args below meth c H locs cells slots Q (F0 m pc ls st0) := by
  intro T hT X
  rcases hr T hT X with ⟨v, st₀, t, T', L, h0, X', hL, e1, e2, ⟨⟨r, u, hv, hp, hb⟩, hF⟩, st⟩ | ⟨q, st₀, t, T', L, E, ce, h0, X', hL, e1, e2, ⟨u, hp, hb, hF⟩, hce, hcv, hcl, st⟩
  · cases hv
    obtain ⟨k1, k2, k3⟩ := vx_keep h0 e1 hS hA hf hL hF
    obtain ⟨t2, a1, b1⟩ := kk r u t T'.heap (locs ++ L) e1.symm (by rw [← e2]; exact X'.warmed.alike) hp hb k1 k2 k3 T' rfl X'
    exact ⟨t2, st t2 a1, b1⟩
  · obtain ⟨k1, k2, k3⟩ := vx_keep h0 e1 hS hAX hf hL hF
    obtain ⟨t2, a1, b1⟩ := kx E ce q u t T'.heap (locs ++ L) e1.symm (by rw [← e2]; exact X'.warmed.alike) hp hb k1 k2 k3 (by rw [e1]; exact hce) hcv hcl T' rfl X'
    exact ⟨t2, st.trans a1, b1⟩
theorem vx_calld {S SX : Type} {post : UInt64 → S → Prop} {px : SX → Prop} {B : S → State → Prop} {BX : String → SX → State → Prop} {AX : Nat → Prop} (hr : vx_Run p l e R s m args below meth c H locs cells slots mc ms (F0 m pc ls st0) rest (va_Qd post B A1 a) (vx_X px BX AX) free) (hS : va_S A0 H0 H locs) (hA : ∀ q, q < H.size → A1 q → A0 q) (hf : ∀ q, free q → A0 q) (hAX : ∀ q, q < H.size → AX q → A0 q)
    (kx : ∀ (E : String) (ce : Cell) (q9 : Addr) (u : SX) (t : State) (H1 : Heap) (locs1 : List Loc), t.heap = H1 → s.vm.Alike t.vm → px u → BX E u t → H.size ≤ H1.size → (∀ q : Nat, q < H.size → ¬ AX q → H1[q]? = H[q]?) → va_S A0 H0 H1 locs1 → H1[q9]? = some ce → ce.vm = .none → s.vm.findClass E = some ce.cls → vx_W p l e R s m args below meth c H1 locs1 (cells + mc) (slots + ms) Q (F0 m pc ls rest) q9)
    (kk : ∀ (r : UInt64) (u : S) (t : State) (H1 : Heap) (locs1 : List Loc), t.heap = H1 → s.vm.Alike t.vm → post r u → B u t → H.size ≤ H1.size → (∀ q : Nat, q < H.size → ¬ A1 q → H1[q]? = H[q]?) → va_S A0 H0 H1 locs1 → W p l e R s m args below meth c H1 locs1 (cells + mc) (slots + ms) Q (F0 m (pc + 3) ls (.double r :: rest))) : W p l e R s m args below meth c H locs cells slots Q (F0 m pc ls st0) := by
  intro T hT X
  rcases hr T hT X with ⟨v, st₀, t, T', L, h0, X', hL, e1, e2, ⟨⟨r, u, hv, hp, hb⟩, hF⟩, st⟩ | ⟨q, st₀, t, T', L, E, ce, h0, X', hL, e1, e2, ⟨u, hp, hb, hF⟩, hce, hcv, hcl, st⟩
  · cases hv
    obtain ⟨k1, k2, k3⟩ := vx_keep h0 e1 hS hA hf hL hF
    obtain ⟨t2, a1, b1⟩ := kk r u t T'.heap (locs ++ L) e1.symm (by rw [← e2]; exact X'.warmed.alike) hp hb k1 k2 k3 T' rfl X'
    exact ⟨t2, st t2 a1, b1⟩
  · obtain ⟨k1, k2, k3⟩ := vx_keep h0 e1 hS hAX hf hL hF
    obtain ⟨t2, a1, b1⟩ := kx E ce q u t T'.heap (locs ++ L) e1.symm (by rw [← e2]; exact X'.warmed.alike) hp hb k1 k2 k3 (by rw [e1]; exact hce) hcv hcl T' rfl X'
    exact ⟨t2, st.trans a1, b1⟩
theorem vx_callv {S SX : Type} {post : S → Prop} {px : SX → Prop} {B : S → State → Prop} {BX : String → SX → State → Prop} {AX : Nat → Prop} (hr : vx_Run p l e R s m args below meth c H locs cells slots mc ms (F0 m pc ls st0) rest (va_Qv post B A1 a) (vx_X px BX AX) free) (hS : va_S A0 H0 H locs) (hA : ∀ q, q < H.size → A1 q → A0 q) (hf : ∀ q, free q → A0 q) (hAX : ∀ q, q < H.size → AX q → A0 q)
    (kx : ∀ (E : String) (ce : Cell) (q9 : Addr) (u : SX) (t : State) (H1 : Heap) (locs1 : List Loc), t.heap = H1 → s.vm.Alike t.vm → px u → BX E u t → H.size ≤ H1.size → (∀ q : Nat, q < H.size → ¬ AX q → H1[q]? = H[q]?) → va_S A0 H0 H1 locs1 → H1[q9]? = some ce → ce.vm = .none → s.vm.findClass E = some ce.cls → vx_W p l e R s m args below meth c H1 locs1 (cells + mc) (slots + ms) Q (F0 m pc ls rest) q9)
    (kk : ∀ (u : S) (t : State) (H1 : Heap) (locs1 : List Loc), t.heap = H1 → s.vm.Alike t.vm → post u → B u t → H.size ≤ H1.size → (∀ q : Nat, q < H.size → ¬ A1 q → H1[q]? = H[q]?) → va_S A0 H0 H1 locs1 → W p l e R s m args below meth c H1 locs1 (cells + mc) (slots + ms) Q (F0 m (pc + 3) ls (rest))) : W p l e R s m args below meth c H locs cells slots Q (F0 m pc ls st0) := by
  intro T hT X
  rcases hr T hT X with ⟨v, st₀, t, T', L, h0, X', hL, e1, e2, ⟨⟨u, hv, hp, hb⟩, hF⟩, st⟩ | ⟨q, st₀, t, T', L, E, ce, h0, X', hL, e1, e2, ⟨u, hp, hb, hF⟩, hce, hcv, hcl, st⟩
  · cases hv
    obtain ⟨k1, k2, k3⟩ := vx_keep h0 e1 hS hA hf hL hF
    obtain ⟨t2, a1, b1⟩ := kk u t T'.heap (locs ++ L) e1.symm (by rw [← e2]; exact X'.warmed.alike) hp hb k1 k2 k3 T' rfl X'
    exact ⟨t2, st t2 a1, b1⟩
  · obtain ⟨k1, k2, k3⟩ := vx_keep h0 e1 hS hAX hf hL hF
    obtain ⟨t2, a1, b1⟩ := kx E ce q u t T'.heap (locs ++ L) e1.symm (by rw [← e2]; exact X'.warmed.alike) hp hb k1 k2 k3 (by rw [e1]; exact hce) hcv hcl T' rfl X'
    exact ⟨t2, st.trans a1, b1⟩
/-- caught by the row x of this method's table; the rows ahead don't take it -/
theorem vx_catch {own name : String} {E : String} {ce : Cell} {q : Addr} (hown : s.vm.findClass own = some m.cls) (pre : List ExceptionTableEntry) (x : ExceptionTableEntry) (suf : List ExceptionTableEntry) (hsplit : c.exceptionTable.toList = pre ++ x :: suf)
    (hpass : ∀ z ∈ pre, covers z pc = false ∨ (z.catchType ≠ 0 ∧ ∃ nm : String, (Cond.classLink own z.catchType nm).before args s = true ∧ va_Nc E nm s)) (hx : covers x pc = true) (h0 : x.catchType ≠ 0)
    (hlink : (Cond.classLink own x.catchType name).before args s = true) (hcast : (Cond.castable E name).before args s = true) (hcell : H[q]? = some ce) (hv : ce.vm = .none) (hcl : s.vm.findClass E = some ce.cls)
    (kk : W p l e R s m args below meth c H locs cells slots Q (F0 m x.handlerPc ls [.ref q])) : vx_W p l e R s m args below meth c H locs cells slots Q (F0 m pc ls rest) q := by
  intro T hT X
  have hpl : e.platform.magicAccessors = ({} : Platform).magicAccessors := by rw [X.admits.platform]
  obtain ⟨c3, c4, hc3, hc4, hasg⟩ := Cond.castable_spec hcast
  cases Option.some.inj (hc3.symm.trans hcl)
  obtain ⟨c5, hc5, hcl5⟩ := Cond.classLink_spec hown hlink e.platform hpl
  cases Option.some.inj (hc4.symm.trans hc5)
  obtain ⟨vm', X', st⟩ := X.thenCaughtThrough q (g := F0 m pc ls rest) rfl (Steps.refl _) (by rw [hT]; exact hcell) (by rw [hv]; rfl) (by obtain ⟨k9, h9, -⟩ := Vm.findClass_spec hcl; exact ⟨k9, h9⟩) pre x suf hsplit
    (fun z hz => by
      rcases hpass z hz with h | ⟨hz0, nm, hl1, hn1⟩
      · exact Or.inl h
      · obtain ⟨c6, hc6, hcl6⟩ := Cond.classLink_spec hown hl1 e.platform hpl
        obtain ⟨a8, b8, h1, h2, h3⟩ := hn1
        cases Option.some.inj (h1.symm.trans hcl)
        cases Option.some.inj (h2.symm.trans hc6)
        exact Or.inr ⟨hz0, _, hcl6, h3⟩) hx (Or.inr ⟨h0, c4, hcl5, hasg⟩)
  obtain ⟨t, a1, b1⟩ := kk (T.setVm vm') hT X'
  exact ⟨t, st.trans a1, b1⟩
end Rows
section Ends
variable {p : Program} {l : Launch} {e : Env} {R : Room} {s : State} {m : MethodId} {args : Array Value} {below : List Frame} {meth : Method} {c : Code} {H : Heap} {locs : List Loc} {cells slots : Nat} {Q : State → Prop}
variable {mc ms : Nat} {free : Addr → Prop} {A0 A1 : Nat → Prop} {H0 : Heap} {a : Array Value} {ls : Array Slot} {st0 rest : List Value}
variable {Qc : Array Value → State → Outcome → State → Prop} {XC : String → State → State → Prop}
/-- what a body that may throw owes at its end -/
def vx_MQ (below : List Frame) (Qc : Array Value → State → Outcome → State → Prop) (XC : String → State → State → Prop) (a : Array Value) (s : State) (mc ms : Nat) (free : Addr → Prop) : State → Prop := fun t =>
  ∃ o, t.status = .running ∧ Ended t below o ∧ vx_Q Qc XC mc ms free a s o t
theorem vx_ret {g : JFrame} {mc ms : Nat} (k : W p l e R s m args below meth c H locs cells slots (MQ below Qc args s mc ms free) g) : W p l e R s m args below meth c H locs cells slots (vx_MQ below Qc XC args s mc ms free) g := by
  intro T hT X
  obtain ⟨t, a1, o, b1, b2, b3, b4⟩ := k T hT X
  exact ⟨t, a1, o, b1, b2, Or.inl ⟨b3, b4⟩⟩
/-- not caught here: it goes on to the caller -/
theorem vx_widen {g : JFrame} {q : Addr} {k n : Nat} (h1 : cells ≤ k) (h2 : slots ≤ n) (kk : vx_W p l e R s m args below meth c H locs k n Q g q) : vx_W p l e R s m args below meth c H locs cells slots Q g q := fun T hT X => kk T hT (stand_widen X h1 h2)
theorem vx_out {pc : Nat} {E : String} {ce : Cell} {q : Addr} {mc ms : Nat} (hout : ∀ x ∈ c.exceptionTable.toList, covers x pc = false) (hlocks : meth.locks = false) (hcell : H[q]? = some ce) (hv : ce.vm = .none) (hcl : s.vm.findClass E = some ce.cls)
    (hx : ∀ t : State, t.heap = H → s.vm.Alike t.vm → XC E s t) (hf : ∀ z ∈ locs, free z.base) (hc : cells ≤ mc) (hs : slots ≤ ms) :
    vx_W p l e R s m args below meth c H locs cells slots (vx_MQ below Qc XC args s mc ms free) (F0 m pc ls rest) q := by
  intro T hT X
  obtain ⟨st1, hrun, hend, hW, hsm⟩ := X.leaveThrown q (g := F0 m pc ls rest) rfl rfl rfl hout hlocks
  have hcell9 : (T.setFrames (.throwing q :: below)).heap[q]? = some ce := by
    show T.heap[q]? = some ce
    rw [hT]; exact hcell
  exact ⟨_, st1, .threw q, hrun, hend, Or.inr ⟨q, rfl, E, ce, locs, hx _ hT hW.alike, hcell9, hv, hcl, hW, hsm.mono hc hs, hf⟩⟩
theorem vx_frame {U : State} {k n : Nat} (h : s.sameButNew ({ U with vm := s.vm } : State) locs k n) : s.heap.size ≤ U.heap.size ∧ ∀ q : Nat, q < s.heap.size → (∀ z ∈ locs, z.base ≠ q) → U.heap[q]? = s.heap[q]? := by
  obtain ⟨-, h2, -, -, -, h6⟩ := h
  refine ⟨h2, fun q hq hz => ?_⟩
  obtain ⟨c9, e1, e2, e3, e4⟩ := h6 q _ (Array.getElem?_eq_getElem hq)
  have hs : c9.slots = (s.heap[q]).slots := Array.ext_getElem? fun i => e4 i fun hm => hz _ hm rfl
  have h9 : c9 = s.heap[q] := by
    rw [hs] at e2
    exact e2
  have e5 : U.heap[q]? = some c9 := e1
  rw [e5, h9, Array.getElem?_eq_getElem hq]
/-- the words of a throw but the four that speak of the heap -/
def vx_no (w : Cond) : Bool := decide (w ≠ .isRef (.static Bundle.tN "UNASSIGNED_STACK" Bundle.steD)) && decide (w ≠ .isRef (.static Bundle.tN "SUPPRESSED_SENTINEL" Bundle.listD)) && decide (w ≠ .laysStatic Bundle.tN "UNASSIGNED_STACK" Bundle.steD) && decide (w ≠ .laysStatic Bundle.tN "SUPPRESSED_SENTINEL" Bundle.listD)
def vx_at0 (own : String) (ic : Nat) (X : String) (names : List String) : List Cond := (Bundle.ownAtoms0 own ic X names).filter vx_no
def vx_atS (own : String) (ic : Nat) (X : String) (names : List String) : List Cond := (Bundle.ownAtoms own ic X names).filter vx_no
/-- a word that the tables alone decide, or a good one -/
def vx_ot (w : Cond) : Bool := w.onTables || goodWord w
theorem vx_ot_at {args a' : Array Value} {s U : State} {w : Cond} (hW : s.WarmedH U.vm) (hvm : s.vm = U.vm) (hg : vx_ot w = true) (h : w.before args s = true) : w.before a' U = true := by
  simp only [vx_ot, Bool.or_eq_true] at hg
  rcases hg with hg | hg
  · exact va_tabs hg hvm h
  · exact word_at hW (good_of_word hg) h
/-- a list's words: the good ones out of the method's own list, the others by premises of their own -/
theorem vx_hat {args : Array Value} {s : State} {L B : List Cond} (h1 : ∀ w ∈ L.filter goodWord, w.before args s = true) (h2 : ∀ w ∈ L.filter (fun w => !goodWord w), w ∈ B) (h3 : ∀ w ∈ B, w.before args s = true) : ∀ w ∈ L, w.before args s = true := by
  intro w hw
  by_cases g : goodWord w = true
  · exact h1 w (List.mem_filter.mpr ⟨hw, g⟩)
  · refine h3 w (h2 w (List.mem_filter.mpr ⟨hw, ?_⟩))
    show (!goodWord w) = true
    cases hgw : goodWord w
    · rfl
    · exact absurd hgw g
theorem vx_c {args : Array Value} {s : State} {w : Cond} {B : List Cond} (h : w.before args s = true) (t : ∀ w ∈ B, w.before args s = true) : ∀ w' ∈ w :: B, w'.before args s = true := fun w' h' => (List.mem_cons.mp h').elim (fun e => by rw [e]; exact h) (t w')
theorem vx_n {args : Array Value} {s : State} : ∀ w ∈ ([] : List Cond), w.before args s = true := fun _ h => nomatch h
theorem vx_own {args : Array Value} {s : State} {L : List Cond} (h1 : ∀ w ∈ L.filter vx_no, w.before args s = true)
    (hU : (Cond.isRef (.static Bundle.tN "UNASSIGNED_STACK" Bundle.steD)).before args s = true) (hN : (Cond.isRef (.static Bundle.tN "SUPPRESSED_SENTINEL" Bundle.listD)).before args s = true)
    (lU : (Cond.laysStatic Bundle.tN "UNASSIGNED_STACK" Bundle.steD).before args s = true) (lN : (Cond.laysStatic Bundle.tN "SUPPRESSED_SENTINEL" Bundle.listD).before args s = true) : ∀ w ∈ L, w.before args s = true := by
  intro w hw
  by_cases e1 : w = .isRef (.static Bundle.tN "UNASSIGNED_STACK" Bundle.steD)
  · rw [e1]; exact hU
  · by_cases e2 : w = .isRef (.static Bundle.tN "SUPPRESSED_SENTINEL" Bundle.listD)
    · rw [e2]; exact hN
    · by_cases e3 : w = .laysStatic Bundle.tN "UNASSIGNED_STACK" Bundle.steD
      · rw [e3]; exact lU
      · by_cases e4 : w = .laysStatic Bundle.tN "SUPPRESSED_SENTINEL" Bundle.listD
        · rw [e4]; exact lN
        · exact h1 w (List.mem_filter.mpr ⟨hw, by unfold vx_no; rw [decide_eq_true e1, decide_eq_true e2, decide_eq_true e3, decide_eq_true e4]; rfl⟩)
/-- where a static field lies, its class's statics cell in H -/
def vx_L (C n d : String) (A : Nat → Prop) (U : State) (H : Heap) : Prop := ∃ (c : ClassId) (k : Class) (i : Nat) (f : Field) (a : Nat) (cell : Cell), U.vm.findClass C = some c ∧ U.fieldFound? C n d = some (c, k, i, f) ∧ f.isStatic = true ∧ k.statics = some a ∧ H[a]? = some cell ∧ cell.vm.isStatics = true ∧ cell.cls = c ∧ f.slot < cell.slots.size ∧ k.staticTypes[f.slot]? = some f.type ∧ ¬ A a
theorem vx_L.moved {C n d : String} {A : Nat → Prop} {u U : State} {H : Heap} (hvm : u.vm.Alike U.vm) (h : vx_L C n d A u H) : vx_L C n d A U H := by
  obtain ⟨c, k, i, f, a, cell, h1, h2, h3, h4, h5, h6, h7, h8, h9, h10⟩ := h
  obtain ⟨k', hi', he⟩ := State.fieldFound?_setVm hvm h2
  exact ⟨c, k', i, f, a, cell, by rw [hvm.findClass]; exact h1, hi', h3, by rw [he]; exact h4, h5, h6, h7, h8, by rw [he]; exact h9, h10⟩
theorem vx_L.kept {C n d : String} {A : Nat → Prop} {U : State} {H H1 : Heap} (h : vx_L C n d A U H) (hq : ∀ a : Nat, a < H.size → ¬ A a → H1[a]? = H[a]?) : vx_L C n d A U H1 := by
  obtain ⟨c, k, i, f, a, cell, h1, h2, h3, h4, h5, h6, h7, h8, h9, h10⟩ := h
  exact ⟨c, k, i, f, a, cell, h1, h2, h3, h4, by rw [hq a (Array.getElem?_eq_some_iff.mp h5).1 h10]; exact h5, h6, h7, h8, h9, h10⟩
theorem vx_L.narrow {C n d : String} {A B : Nat → Prop} {U : State} {H : Heap} (h : vx_L C n d A U H) (hAB : ∀ q, B q → A q) : vx_L C n d B U H := by
  obtain ⟨c, k, i, f, a, cell, h1, h2, h3, h4, h5, h6, h7, h8, h9, h10⟩ := h
  exact ⟨c, k, i, f, a, cell, h1, h2, h3, h4, h5, h6, h7, h8, h9, fun z => h10 (hAB _ z)⟩
theorem vx_L.word {C n d : String} {A : Nat → Prop} {s : State} {args : Array Value} (h : vx_L C n d A s s.heap) : (Cond.laysStatic C n d).before args s = true := by
  obtain ⟨c, k, i, f, a, cell, h1, h2, h3, h4, h5, h6, h7, h8, h9, -⟩ := h
  show (Cond.laysStatic C n d).holds args s none s [] = true
  exact Cond.laysStatic_of h1 h2 h3 h4 h5 h6 h7 h8 h9
/-- .. and what it holds: null or some reference -/
def vx_Zq (C n d : String) (A : Nat → Prop) (U : State) (H : Heap) : Prop := va_Zq C n d A U H ∧ vx_L C n d A U H
theorem vx_Zq.moved {C n d : String} {A : Nat → Prop} {u U : State} {H : Heap} (hvm : u.vm.Alike U.vm) (h : vx_Zq C n d A u H) : vx_Zq C n d A U H := ⟨va_Zq.moved hvm h.1, vx_L.moved hvm h.2⟩
theorem vx_Zq.kept {C n d : String} {A : Nat → Prop} {U : State} {H H1 : Heap} (h : vx_Zq C n d A U H) (hq : ∀ a : Nat, a < H.size → ¬ A a → H1[a]? = H[a]?) : vx_Zq C n d A U H1 := ⟨va_Zq.kept h.1 hq, vx_L.kept h.2 hq⟩
theorem vx_Zq.narrow {C n d : String} {A B : Nat → Prop} {U : State} {H : Heap} (h : vx_Zq C n d A U H) (hAB : ∀ q, B q → A q) : vx_Zq C n d B U H := ⟨va_Zq.narrow h.1 hAB, vx_L.narrow h.2 hAB⟩
theorem vx_Zqof {args : Array Value} {s : State} {C n d : String} {A : Nat → Prop} (hl : (Cond.laysStatic C n d).before args s = true) (hini : (Cond.initialized C).before args s = true) (h : (Cond.isRef (.static C n d)).before args s = true) (hA : ∀ a : Nat, a < s.heap.size → ¬ A a) : vx_Zq C n d A s s.heap := by
  refine ⟨va_Zqof hl hini h hA, ?_⟩
  obtain ⟨c, k, i, f, a, cell, h1, h2, h3, h4, h5, h6, h7, h8, h9⟩ := Cond.laysStatic_spec hl
  exact ⟨c, k, i, f, a, cell, h1, h2, h3, h4, h5, h6, h7, h8, h9, hA a (Array.getElem?_eq_some_iff.mp h5).1⟩
theorem vx_isRef {C n d : String} {v : Value} {A : Nat → Prop} {s : State} {args : Array Value} (h : va_Z C n d v A s s.heap) (hv : v.isRef = true) : (Cond.isRef (.static C n d)).before args s = true := by
  obtain ⟨cf, kf, fi, f, a, cell, h1, h2, h3, h4, h5, h6, h7, -⟩ := h
  have he : (Term.static C n d).eval args s none [] s = some v := by
    simp [Term.eval, State.fieldNamed?, h1, h2, h4, h5, h6, h7]
  simp only [Cond.before, Cond.holds, Cond.value, he]
  cases v <;> simp_all [Value.isRef]
theorem vx_isRefq {C n d : String} {A : Nat → Prop} {s : State} {args : Array Value} (h : va_Zq C n d A s s.heap) : (Cond.isRef (.static C n d)).before args s = true := by
  rcases h with h | ⟨t, h⟩
  · exact vx_isRef h rfl
  · exact vx_isRef h rfl
/-- the same frame, seen from here: as if the method were called anew in this heap -/
theorem vx_rebase {T : State} (X : Stand p l e R s m args below meth c T locs cells slots) {R' : Room} (hf : R'.frames ≤ R.frames) (hl : R'.locals ≤ R.locals) (hc : cells + R'.cells ≤ R.cells) (hs : slots + R'.slots ≤ R.slots) :
    Stand p l e R' ((T.setVm s.vm).setFrames (.invoking m args :: below)) m args below meth c T [] 0 0 := by
  have htop : (T.setVm s.vm).topJava?.isSome := X.here.top
  have hF : ((T.setVm s.vm).setFrames (.invoking m args :: below)).frames = .invoking m args :: below := State.frames_setFrames _ (State.cur_lt_of_top htop)
  obtain ⟨g₀, hg0⟩ := Option.isSome_iff_exists.mp htop
  obtain ⟨r, hr⟩ := State.topJava?_eq_some.mp hg0
  have hl9 : e.platform.stackLimits (T.setVm s.vm).me = e.platform.stackLimits s.me := X.limits
  have hb9 : (T.setVm s.vm).me.stackBytes = s.me.stackBytes := X.bytes
  refine ⟨X.admits, X.cas, X.clock, hF, ?_, X.hears, X.method, X.code, X.here, X.tail, X.warmed, ?_, ?_, ?_⟩
  · have h := X.room
    have hU : ((T.setVm s.vm).setFrames (.invoking m args :: below)).localsInUse = s.localsInUse := by
      rw [State.localsInUse_invoking hF (meth := meth) (c := c) X.method X.code, State.localsInUse_invoking X.frames X.method X.code]
    simp only [State.hasRoom, Bool.and_eq_true, decide_eq_true_eq] at h ⊢
    obtain ⟨⟨⟨⟨h1, h2, h3, h4, h5, h6⟩, h7⟩, h8⟩, h9⟩ := h
    rw [X.frames, List.length_cons] at h2 h3
    have q1 := X.heapSize
    have q2 := X.used
    simp only [hF, hU, List.length_cons, State.stackLimits_setFrames, State.stackBytes_setFrames, hl9, hb9]
    refine ⟨⟨⟨⟨by omega, by omega, by omega, by omega, by omega, h6⟩, ?_⟩, ?_⟩, X.book⟩
    · show T.heap.size + R'.cells ≤ e.platform.maxCells
      omega
    · show T.slotsUsed + R'.slots ≤ e.platform.maxSlots
      omega
  · rw [State.stackLimits_setFrames]; rfl
  · rw [State.stackBytes_setFrames]; rfl
  · refine ⟨?_, Nat.le_refl _, Nat.le_refl _, ?_, ?_, fun a c9 h9 => ⟨c9, h9, rfl, rfl, fun _ _ => rfl⟩⟩
    · obtain ⟨t, ht, -⟩ := State.frames_cons hr
      show T.setVm s.vm = { ((T.setVm s.vm).setFrames (.invoking m args :: below)).setFrames (T.setVm s.vm).frames with heap := T.heap, slotsUsed := T.slotsUsed }
      rw [State.setFrames_setFrames, State.setFrames_self ht]
      rfl
    · show T.slotsUsed = T.slotsUsed + ((T.heap.toList.drop T.heap.size).map (·.slots.size)).sum
      rw [List.drop_eq_nil_of_le (Nat.le_of_eq Array.length_toList)]
      rfl
    · show ((T.heap.toList.drop T.heap.size).map (·.slots.size)).sum ≤ 0
      rw [List.drop_eq_nil_of_le (Nat.le_of_eq Array.length_toList)]
      exact Nat.le_refl _
/-- 'throw new E()': new; dup; invokespecial; athrow -/
theorem vx_throw0 {cc : ByteArray} {pc : Nat} (hexec : p.tables.exec = Jvm.exec) (hb : c.code = cc) (hl : l.stackTraces = false) {own cls : String} {names : List String} {ik ic mc ms : Nat} {A : Nat → Prop}
    (hown : s.vm.findClass own = some m.cls) (hcls : Bundle.fit cls = true) (hnames : ∀ n ∈ names, Bundle.fit n = true)
    (hk : (Cond.classLink own ik cls).before args s = true) (hini : (Cond.initialized cls).before args s = true) (hat : ∀ w ∈ vx_at0 own ic cls names, w.before args s = true)
    (hgood : ∀ w ∈ Cond.classLink own ik cls :: Cond.initialized cls :: vx_at0 own ic cls names, vx_ot w = true)
    (hU : vx_Zq Bundle.tN "UNASSIGNED_STACK" Bundle.steD A s s.heap) (hN : vx_Zq Bundle.tN "SUPPRESSED_SENTINEL" Bundle.listD A s s.heap) (hS : va_S A s.heap H locs) (hsize : ls.size = c.maxLocals)
    (d0 : decode cc pc = .ok (.new ik, 3)) (d3 : decode cc (pc + 3) = .ok (.dup, 1)) (d4 : decode cc (pc + 4) = .ok (.invokespecial ic, 3)) (d7 : decode cc (pc + 7) = .ok (.athrow, 1))
    (hout : ∀ x ∈ c.exceptionTable.toList, covers x (pc + 7) = false)
    (hRframes : names.length + 3 < R.frames) (hRlocals : (rest.map fun v => v.category).sum + (13 * (names.length + 1) + 42) ≤ R.locals) (hRcells : cells + 1 ≤ R.cells) (hRslots : slots + 6 ≤ R.slots) (hlocks : meth.locks = false)
    (hx : ∀ t : State, s.vm.Alike t.vm → H.size ≤ t.heap.size → (∀ q : Nat, q < H.size → t.heap[q]? = H[q]?) → XC cls s t)
    (hf : ∀ z ∈ locs, free z.base) (hc : cells + 1 ≤ mc) (hs : slots + 6 ≤ ms) :
    W p l e R s m args below meth c H locs cells slots (vx_MQ below Qc XC args s mc ms free) (F0 m pc ls rest) := by
  intro T hT X
  have htr : e.platform.stackTraces = false := (show e.platform.stackTraces = l.stackTraces by rw [X.admits.platform]).trans hl
  have Y := vx_rebase X (R' := { frames := R.frames, locals := R.locals, cells := 1, slots := 6 }) (Nat.le_refl _) (Nat.le_refl _) hRcells hRslots
  obtain ⟨s', hA⟩ : ∃ z, z = (T.setVm s.vm).setFrames (.invoking m args :: below) := ⟨_, rfl⟩
  rw [← hA] at Y
  have hvm : s'.vm = s.vm := by rw [hA]; rfl
  have hhp : s'.heap = H := by rw [hA]; exact hT
  have hW0 : s.WarmedH s'.vm := by rw [hvm]; exact State.WarmedH.refl s
  have hat' : ∀ w ∈ vx_at0 own ic cls names, w.before args s' = true := fun w hw => vx_ot_at hW0 hvm.symm (hgood w (List.mem_cons_of_mem _ (List.mem_cons_of_mem _ hw))) (hat w hw)
  have hk' : (Cond.classLink own ik cls).before args s' = true := vx_ot_at hW0 hvm.symm (hgood _ List.mem_cons_self) hk
  have hini' : (Cond.initialized cls).before args s' = true := vx_ot_at hW0 hvm.symm (hgood _ (List.mem_cons_of_mem _ List.mem_cons_self)) hini
  have hU' : vx_Zq Bundle.tN "UNASSIGNED_STACK" Bundle.steD A s' s'.heap := by rw [hhp]; exact vx_Zq.moved hW0.alike (hU.kept hS.2.1)
  have hN' : vx_Zq Bundle.tN "SUPPRESSED_SENTINEL" Bundle.listD A s' s'.heap := by rw [hhp]; exact vx_Zq.moved hW0.alike (hN.kept hS.2.1)
  have h : ∀ w ∈ Bundle.ownAtoms0 own ic cls names, w.before args s' = true := vx_own hat' (vx_isRefq hU'.1) (vx_isRefq hN'.1) hU'.2.word hN'.2.word
  have hown' : s'.vm.findClass own = some m.cls := by rw [hvm]; exact hown
  have hins : (Cond.instantiable cls 6).before args s' = true := h _ (by simp [Bundle.ownAtoms0])
  obtain ⟨vm₁, cX, kX, hfX, hkX, -, -, X₁, st1⟩ := Y.newCold hexec (own := own) (C := cls) (index := ik) (n := 6) hown' hk' hins hini'
    (g := F0 m pc ls rest) rfl (by rw [hb]; exact d0) (Nat.le_refl _) (Nat.le_refl _)
  generalize hT1 : (T.setVm vm₁).pushCell { cls := cX, slots := kX.instanceTypes.map defaultValue, vm := .none } = T1 at X₁ st1
  have hcat : (Value.ref T.heap.size).category = 1 := rfl
  have hcellA : T1.heap[T.heap.size]? = some (freshCell cX kX) := by rw [← hT1]; exact State.heap_pushCell_size _ _
  have d3' : decode c.code (pc + 3) = .ok (.dup, 1) := by rw [hb]; exact d3
  obtain ⟨U, hsteps, hrun, hend, hW, hsame, ce, hce, hO⟩ := X₁.ctorThrow0 hexec htr (own := own) (cls := cls) (names := names) (ic := ic) hown' hcls hnames h (fun x hx => nomatch hx) hfX hkX hcellA (by rw [hhp, hT]; exact Nat.le_refl _)
    (g := { method := m, pc := pc + 4, locals := ls, stack := .ref T.heap.size :: .ref T.heap.size :: rest, locked := none }) rfl hsize rfl rfl (rest := rest) rfl
    (by rw [hb]; exact d4) (by rw [hb]; exact d7) hout hRframes (by simp only [List.map_cons, List.sum_cons, hcat]; omega) hlocks
  obtain ⟨f1, f2⟩ := vx_frame hsame
  rw [hhp] at f1 f2
  have hWs : s.WarmedH U.vm := State.WarmedH.trans hW0 hW
  have hcl : s.vm.findClass cls = some ce.cls := by
    have h9 := hO.cls
    rw [hvm] at h9
    exact h9
  have hall : s.sameButNew ({ U with vm := s.vm } : State) locs mc ms := by
    subst hA
    obtain ⟨e1, e2⟩ := hsame
    rw [State.setFrames_setFrames] at e1
    have h2 : (T.setVm s.vm).sameButNew ({ U with vm := s.vm } : State) [] (0 + 1) (0 + 6) := ⟨e1, e2⟩
    have h3 := X.same.trans h2
    rw [List.append_nil] at h3
    exact h3.mono hc hs
  refine ⟨U, ?_, .threw T.heap.size, hrun, hend, Or.inr ⟨T.heap.size, rfl, cls, ce, locs, hx U hWs.alike f1 (fun q hq => f2 q hq (fun z hz => nomatch hz)), hce, hO.vm, hcl, hWs, hall, hf⟩⟩
  refine st1 _ ?_
  show Steps p.tables e below (T1.setTop { method := m, pc := pc + 3, locals := ls, stack := .ref T.heap.size :: rest, locked := none }) _
  jvm_step X₁.here [X₁.here.top, hexec, d3', Value.category]
  exact hsteps
/-- 'throw new E("text")': new; dup; ldc; invokespecial; athrow -/
theorem vx_throwS {cc : ByteArray} {pc : Nat} (hexec : p.tables.exec = Jvm.exec) (hb : c.code = cc) (hl : l.stackTraces = false) {own cls text : String} {names : List String} {ik is ic mc ms sa : Nat} {A : Nat → Prop}
    (hown : s.vm.findClass own = some m.cls) (hcls : Bundle.fit cls = true) (hnames : ∀ n ∈ names, Bundle.fit n = true)
    (hk : (Cond.classLink own ik cls).before args s = true) (hini : (Cond.initialized cls).before args s = true) (hstr : vk_R own is text sa s) (hat : ∀ w ∈ vx_atS own ic cls names, w.before args s = true)
    (hgood : ∀ w ∈ Cond.classLink own ik cls :: Cond.initialized cls :: vx_atS own ic cls names, vx_ot w = true)
    (hU : vx_Zq Bundle.tN "UNASSIGNED_STACK" Bundle.steD A s s.heap) (hN : vx_Zq Bundle.tN "SUPPRESSED_SENTINEL" Bundle.listD A s s.heap) (hS : va_S A s.heap H locs) (hsize : ls.size = c.maxLocals)
    (d0 : decode cc pc = .ok (.new ik, 3)) (d3 : decode cc (pc + 3) = .ok (.dup, 1)) (d4 : decode cc (pc + 4) = .ok (.ldc is, 2)) (d6 : decode cc (pc + 6) = .ok (.invokespecial ic, 3)) (d9 : decode cc (pc + 9) = .ok (.athrow, 1))
    (hout : ∀ x ∈ c.exceptionTable.toList, covers x (pc + 9) = false)
    (hRframes : names.length + 3 < R.frames) (hRlocals : (rest.map fun v => v.category).sum + (13 * (names.length + 1) + 43) ≤ R.locals) (hRcells : cells + 1 ≤ R.cells) (hRslots : slots + 6 ≤ R.slots) (hlocks : meth.locks = false)
    (hx : ∀ t : State, s.vm.Alike t.vm → H.size ≤ t.heap.size → (∀ q : Nat, q < H.size → t.heap[q]? = H[q]?) → XC cls s t)
    (hf : ∀ z ∈ locs, free z.base) (hc : cells + 1 ≤ mc) (hs : slots + 6 ≤ ms) :
    W p l e R s m args below meth c H locs cells slots (vx_MQ below Qc XC args s mc ms free) (F0 m pc ls rest) := by
  intro T hT X
  have htr : e.platform.stackTraces = false := (show e.platform.stackTraces = l.stackTraces by rw [X.admits.platform]).trans hl
  have Y := vx_rebase X (R' := { frames := R.frames, locals := R.locals, cells := 1, slots := 6 }) (Nat.le_refl _) (Nat.le_refl _) hRcells hRslots
  obtain ⟨s', hA⟩ : ∃ z, z = (T.setVm s.vm).setFrames (.invoking m args :: below) := ⟨_, rfl⟩
  rw [← hA] at Y
  have hvm : s'.vm = s.vm := by rw [hA]; rfl
  have hhp : s'.heap = H := by rw [hA]; exact hT
  have hW0 : s.WarmedH s'.vm := by rw [hvm]; exact State.WarmedH.refl s
  have hat' : ∀ w ∈ vx_atS own ic cls names, w.before args s' = true := fun w hw => vx_ot_at hW0 hvm.symm (hgood w (List.mem_cons_of_mem _ (List.mem_cons_of_mem _ hw))) (hat w hw)
  have hk' : (Cond.classLink own ik cls).before args s' = true := vx_ot_at hW0 hvm.symm (hgood _ List.mem_cons_self) hk
  have hini' : (Cond.initialized cls).before args s' = true := vx_ot_at hW0 hvm.symm (hgood _ (List.mem_cons_of_mem _ List.mem_cons_self)) hini
  have hU' : vx_Zq Bundle.tN "UNASSIGNED_STACK" Bundle.steD A s' s'.heap := by rw [hhp]; exact vx_Zq.moved hW0.alike (hU.kept hS.2.1)
  have hN' : vx_Zq Bundle.tN "SUPPRESSED_SENTINEL" Bundle.listD A s' s'.heap := by rw [hhp]; exact vx_Zq.moved hW0.alike (hN.kept hS.2.1)
  have h : ∀ w ∈ Bundle.ownAtoms own ic cls names, w.before args s' = true := vx_own hat' (vx_isRefq hU'.1) (vx_isRefq hN'.1) hU'.2.word hN'.2.word
  have hown' : s'.vm.findClass own = some m.cls := by rw [hvm]; exact hown
  have hins : (Cond.instantiable cls 6).before args s' = true := h _ (by simp [Bundle.ownAtoms])
  obtain ⟨vm₁, cX, kX, hfX, hkX, -, -, X₁, st1⟩ := Y.newCold hexec (own := own) (C := cls) (index := ik) (n := 6) hown' hk' hins hini'
    (g := F0 m pc ls rest) rfl (by rw [hb]; exact d0) (Nat.le_refl _) (Nat.le_refl _)
  generalize hT1 : (T.setVm vm₁).pushCell { cls := cX, slots := kX.instanceTypes.map defaultValue, vm := .none } = T1 at X₁ st1
  have hcat : (Value.ref T.heap.size).category = 1 := rfl
  have hcellA : T1.heap[T.heap.size]? = some (freshCell cX kX) := by rw [← hT1]; exact State.heap_pushCell_size _ _
  have d3' : decode c.code (pc + 3) = .ok (.dup, 1) := by rw [hb]; exact d3
  have d4' : decode c.code (pc + 4) = .ok (.ldc is, 2) := by rw [hb]; exact d4
  have hstr' : vk_R own is text sa s' := vk_R.warm hW0 hstr
  obtain ⟨U, hsteps, hrun, hend, hW, hsame, ce, hce, hO⟩ := X₁.ctorThrowS hexec htr (own := own) (cls := cls) (names := names) (ic := ic) hown' hcls hnames h (fun x hx => nomatch hx) hfX hkX hcellA (by rw [hhp, hT]; exact Nat.le_refl _) (msg := .ref sa) rfl
    (g := { method := m, pc := pc + 6, locals := ls, stack := .ref sa :: .ref T.heap.size :: .ref T.heap.size :: rest, locked := none }) rfl hsize rfl rfl (rest := rest) rfl
    (by rw [hb]; exact d6) (by rw [hb]; exact d9) hout hRframes (by simp only [List.map_cons, List.sum_cons, hcat]; omega) hlocks
  obtain ⟨f1, f2⟩ := vx_frame hsame
  rw [hhp] at f1 f2
  have hWs : s.WarmedH U.vm := State.WarmedH.trans hW0 hW
  have hcl : s.vm.findClass cls = some ce.cls := by
    have h9 := hO.cls
    rw [hvm] at h9
    exact h9
  have hall : s.sameButNew ({ U with vm := s.vm } : State) locs mc ms := by
    subst hA
    obtain ⟨e1, e2⟩ := hsame
    rw [State.setFrames_setFrames] at e1
    have h2 : (T.setVm s.vm).sameButNew ({ U with vm := s.vm } : State) [] (0 + 1) (0 + 6) := ⟨e1, e2⟩
    have h3 := X.same.trans h2
    rw [List.append_nil] at h3
    exact h3.mono hc hs
  refine ⟨U, ?_, .threw T.heap.size, hrun, hend, Or.inr ⟨T.heap.size, rfl, cls, ce, locs, hx U hWs.alike f1 (fun q hq => f2 q hq (fun z hz => nomatch hz)), hce, hO.vm, hcl, hWs, hall, hf⟩⟩
  refine st1 _ ?_
  show Steps p.tables e below (T1.setTop { method := m, pc := pc + 3, locals := ls, stack := .ref T.heap.size :: rest, locked := none }) _
  jvm_step X₁.here [X₁.here.top, hexec, d3', Value.category]
  exact X₁.ldcString hexec (own := own) (text := text) (index := is) (a := sa) hown' hstr'.1 hstr'.2
    (g := { method := m, pc := pc + 4, locals := ls, stack := .ref T.heap.size :: .ref T.heap.size :: rest, locked := none }) rfl d4' _ hsteps
/-- 'throw new E("text")', the text by a wide index -/
theorem vx_throwSW {cc : ByteArray} {pc : Nat} (hexec : p.tables.exec = Jvm.exec) (hb : c.code = cc) (hl : l.stackTraces = false) {own cls text : String} {names : List String} {ik is ic mc ms sa : Nat} {A : Nat → Prop}
    (hown : s.vm.findClass own = some m.cls) (hcls : Bundle.fit cls = true) (hnames : ∀ n ∈ names, Bundle.fit n = true)
    (hk : (Cond.classLink own ik cls).before args s = true) (hini : (Cond.initialized cls).before args s = true) (hstr : vk_R own is text sa s) (hat : ∀ w ∈ vx_atS own ic cls names, w.before args s = true)
    (hgood : ∀ w ∈ Cond.classLink own ik cls :: Cond.initialized cls :: vx_atS own ic cls names, vx_ot w = true)
    (hU : vx_Zq Bundle.tN "UNASSIGNED_STACK" Bundle.steD A s s.heap) (hN : vx_Zq Bundle.tN "SUPPRESSED_SENTINEL" Bundle.listD A s s.heap) (hS : va_S A s.heap H locs) (hsize : ls.size = c.maxLocals)
    (d0 : decode cc pc = .ok (.new ik, 3)) (d3 : decode cc (pc + 3) = .ok (.dup, 1)) (d4 : decode cc (pc + 4) = .ok (.ldc_w is, 3)) (d7 : decode cc (pc + 7) = .ok (.invokespecial ic, 3)) (d10 : decode cc (pc + 10) = .ok (.athrow, 1))
    (hout : ∀ x ∈ c.exceptionTable.toList, covers x (pc + 10) = false)
    (hRframes : names.length + 3 < R.frames) (hRlocals : (rest.map fun v => v.category).sum + (13 * (names.length + 1) + 43) ≤ R.locals) (hRcells : cells + 1 ≤ R.cells) (hRslots : slots + 6 ≤ R.slots) (hlocks : meth.locks = false)
    (hx : ∀ t : State, s.vm.Alike t.vm → H.size ≤ t.heap.size → (∀ q : Nat, q < H.size → t.heap[q]? = H[q]?) → XC cls s t)
    (hf : ∀ z ∈ locs, free z.base) (hc : cells + 1 ≤ mc) (hs : slots + 6 ≤ ms) :
    W p l e R s m args below meth c H locs cells slots (vx_MQ below Qc XC args s mc ms free) (F0 m pc ls rest) := by
  intro T hT X
  have htr : e.platform.stackTraces = false := (show e.platform.stackTraces = l.stackTraces by rw [X.admits.platform]).trans hl
  have Y := vx_rebase X (R' := { frames := R.frames, locals := R.locals, cells := 1, slots := 6 }) (Nat.le_refl _) (Nat.le_refl _) hRcells hRslots
  obtain ⟨s', hA⟩ : ∃ z, z = (T.setVm s.vm).setFrames (.invoking m args :: below) := ⟨_, rfl⟩
  rw [← hA] at Y
  have hvm : s'.vm = s.vm := by rw [hA]; rfl
  have hhp : s'.heap = H := by rw [hA]; exact hT
  have hW0 : s.WarmedH s'.vm := by rw [hvm]; exact State.WarmedH.refl s
  have hat' : ∀ w ∈ vx_atS own ic cls names, w.before args s' = true := fun w hw => vx_ot_at hW0 hvm.symm (hgood w (List.mem_cons_of_mem _ (List.mem_cons_of_mem _ hw))) (hat w hw)
  have hk' : (Cond.classLink own ik cls).before args s' = true := vx_ot_at hW0 hvm.symm (hgood _ List.mem_cons_self) hk
  have hini' : (Cond.initialized cls).before args s' = true := vx_ot_at hW0 hvm.symm (hgood _ (List.mem_cons_of_mem _ List.mem_cons_self)) hini
  have hU' : vx_Zq Bundle.tN "UNASSIGNED_STACK" Bundle.steD A s' s'.heap := by rw [hhp]; exact vx_Zq.moved hW0.alike (hU.kept hS.2.1)
  have hN' : vx_Zq Bundle.tN "SUPPRESSED_SENTINEL" Bundle.listD A s' s'.heap := by rw [hhp]; exact vx_Zq.moved hW0.alike (hN.kept hS.2.1)
  have h : ∀ w ∈ Bundle.ownAtoms own ic cls names, w.before args s' = true := vx_own hat' (vx_isRefq hU'.1) (vx_isRefq hN'.1) hU'.2.word hN'.2.word
  have hown' : s'.vm.findClass own = some m.cls := by rw [hvm]; exact hown
  have hins : (Cond.instantiable cls 6).before args s' = true := h _ (by simp [Bundle.ownAtoms])
  obtain ⟨vm₁, cX, kX, hfX, hkX, -, -, X₁, st1⟩ := Y.newCold hexec (own := own) (C := cls) (index := ik) (n := 6) hown' hk' hins hini'
    (g := F0 m pc ls rest) rfl (by rw [hb]; exact d0) (Nat.le_refl _) (Nat.le_refl _)
  generalize hT1 : (T.setVm vm₁).pushCell { cls := cX, slots := kX.instanceTypes.map defaultValue, vm := .none } = T1 at X₁ st1
  have hcat : (Value.ref T.heap.size).category = 1 := rfl
  have hcellA : T1.heap[T.heap.size]? = some (freshCell cX kX) := by rw [← hT1]; exact State.heap_pushCell_size _ _
  have d3' : decode c.code (pc + 3) = .ok (.dup, 1) := by rw [hb]; exact d3
  have d4' : decode c.code (pc + 4) = .ok (.ldc_w is, 3) := by rw [hb]; exact d4
  have hstr' : vk_R own is text sa s' := vk_R.warm hW0 hstr
  obtain ⟨U, hsteps, hrun, hend, hW, hsame, ce, hce, hO⟩ := X₁.ctorThrowS hexec htr (own := own) (cls := cls) (names := names) (ic := ic) hown' hcls hnames h (fun x hx => nomatch hx) hfX hkX hcellA (by rw [hhp, hT]; exact Nat.le_refl _) (msg := .ref sa) rfl
    (g := { method := m, pc := pc + 7, locals := ls, stack := .ref sa :: .ref T.heap.size :: .ref T.heap.size :: rest, locked := none }) rfl hsize rfl rfl (rest := rest) rfl
    (by rw [hb]; exact d7) (by rw [hb]; exact d10) hout hRframes (by simp only [List.map_cons, List.sum_cons, hcat]; omega) hlocks
  obtain ⟨f1, f2⟩ := vx_frame hsame
  rw [hhp] at f1 f2
  have hWs : s.WarmedH U.vm := State.WarmedH.trans hW0 hW
  have hcl : s.vm.findClass cls = some ce.cls := by
    have h9 := hO.cls
    rw [hvm] at h9
    exact h9
  have hall : s.sameButNew ({ U with vm := s.vm } : State) locs mc ms := by
    subst hA
    obtain ⟨e1, e2⟩ := hsame
    rw [State.setFrames_setFrames] at e1
    have h2 : (T.setVm s.vm).sameButNew ({ U with vm := s.vm } : State) [] (0 + 1) (0 + 6) := ⟨e1, e2⟩
    have h3 := X.same.trans h2
    rw [List.append_nil] at h3
    exact h3.mono hc hs
  refine ⟨U, ?_, .threw T.heap.size, hrun, hend, Or.inr ⟨T.heap.size, rfl, cls, ce, locs, hx U hWs.alike f1 (fun q hq => f2 q hq (fun z hz => nomatch hz)), hce, hO.vm, hcl, hWs, hall, hf⟩⟩
  refine st1 _ ?_
  show Steps p.tables e below (T1.setTop { method := m, pc := pc + 3, locals := ls, stack := .ref T.heap.size :: rest, locked := none }) _
  jvm_step X₁.here [X₁.here.top, hexec, d3', Value.category]
  exact X₁.ldcStringW hexec (own := own) (text := text) (index := is) (a := sa) hown' hstr'.1 hstr'.2
    (g := { method := m, pc := pc + 4, locals := ls, stack := .ref T.heap.size :: .ref T.heap.size :: rest, locked := none }) rfl d4' _ hsteps
end Ends
section Bodies
variable {l : Launch}
theorem vx_ofW {y : MethodName} {ws ws' : List Cond} {rm : Room} {Pc : Array Value → State → Prop} {Qc : Array Value → State → Outcome → State → Prop} {XC : String → State → State → Prop} {mc ms : Nat} {free : Addr → Prop} {cc : ByteArray} {maxL : Nat} {ret : Option FieldType}
    (hy : plainName y.cls = true) (hw : ws = Cond.code y cc maxL ret :: ws')
    (body : ∀ p e s m args below meth c s₁, BodyLoose p l y (headSpec ws rm) cc maxL ret e s m args below meth c s₁ → c.maxLocals = maxL → (∀ x ∈ c.exceptionTable.toList, False) → Pc args s →
      W p l e (headSpec ws rm).room s m args below meth c s.heap [] 0 0 (vx_MQ below Qc XC args s mc ms free) (entryFrame m args maxL)) : vx_Met l y ws rm Pc Qc XC mc ms free := by
  refine MetFree.of_bodyS (code := cc) (maxLocals := maxL) (ret := ret) hy ?_ ?_
  · intro args s m h hn
    obtain ⟨meth, c, h1, h2, h3, h4, h5, h6, -, -⟩ := Cond.code_spec hn (atoms_spec (ws := ws) h _ (by rw [hw]; exact List.mem_cons_self))
    exact ⟨meth, c, h1, h2, h3, h4, h5, h6⟩
  · intro p e s m args below meth c s₁ B hml hP _
    have hh0 : s₁.heap = s.heap := by rw [B.state]; rfl
    have ht : ∀ x ∈ c.exceptionTable.toList, False := by
      obtain ⟨meth9, c9, h1, h2, -, -, -, -, h7, -⟩ := Cond.code_spec B.named (atoms_spec (ws := ws) B.pre _ (by rw [hw]; exact List.mem_cons_self))
      cases Option.some.inj (h1.symm.trans B.method)
      cases Option.some.inj (h2.symm.trans (Stand.of_body B).code)
      intro x hx
      rw [Array.isEmpty_iff.mp h7] at hx
      cases hx
    obtain ⟨t, a1, o, b1, b2, b3⟩ := body p e s m args below meth c s₁ B hml ht hP s₁ hh0 (Stand.of_body B)
    exact ⟨t, o, a1, b1, b2, b3⟩
/-- the table of a body with handlers -/
theorem vx_table {p : Program} {x y : MethodName} {S : Spec} {cc bytes : ByteArray} {maxL maxL' : Nat} {ret ret' : Option FieldType} {e : Env} {s s₁ : State} {m : MethodId} {args : Array Value} {below : List Frame} {meth : Method} {c : Code} {hh : List (Nat × Nat × Nat × Nat)}
    (B : BodyLoose p l y S cc maxL ret e s m args below meth c s₁) (h : (Cond.codeWith y bytes maxL' ret' hh).before args s = true) : c.exceptionTable.toList = tableOf hh := by
  obtain ⟨m9, meth9, c9, hn9, h1, h2, -, -, h6, -⟩ := Cond.codeWith_spec h
  cases Option.some.inj (hn9.symm.trans B.named)
  cases Option.some.inj (h1.symm.trans B.method)
  cases Option.some.inj (h2.symm.trans (Stand.of_body B).code)
  rw [← h6, table_eq]
end Bodies
end VXA
/-! ===== END ===== -/
/-! ===== BEGIN a static call of a method with an exception table ===== -/
section VXS
variable {p : Program} {l : Launch} {e : Env} {R : Room} {s : State} {m : MethodId} {args : Array Value} {below : List Frame} {meth : Method} {c : Code} {T : State} {H : Heap} {locs : List Loc} {cells slots : Nat}
abbrev vx_CSW (R : Room) (s : State) (args : Array Value) (own : String) (index : Nat) (y : MethodName) (bytes : ByteArray) (maxL : Nat) (ret : Option FieldType) (hh : List (Nat × Nat × Nat × Nat)) (ws : List Cond) (rm : Room) (mc ms n : Nat) : Prop :=
  (rm.cells = mc ∧ rm.slots = ms ∧ rm.frames + 1 ≤ R.frames ∧ 8 + (maxL + 11) + rm.locals ≤ R.locals ∧ (∀ w ∈ ws, ∀ (a' : Array Value) (U : State), s.WarmedH U.vm → w.before a' U = true) ∧ Cond.codeWith y bytes maxL ret hh ∈ ws) ∧
  (Cond.codeWith y bytes maxL ret hh).before args s = true ∧ (Cond.initialized y.cls).before args s = true ∧ (y.cls ≠ "java/lang/invoke/MethodHandle" ∧ y.cls ≠ "java/lang/invoke/VarHandle") ∧
  (∀ sig, parseMethodDescriptor y.desc = some sig → n = sig.parameters.length) ∧ (Cond.methodLink own index y).before args s = true ∧ (Cond.static y).before args s = true
theorem vx_cwSW {own : String} {index maxL mc ms : Nat} {y : MethodName} {bytes : ByteArray} {ret : Option FieldType} {hh : List (Nat × Nat × Nat × Nat)} {Ts ws ws' : List Cond} {rm : Room} (n : Nat) (ht : ∀ w ∈ Ts, w.before args s = true) (hT : GoodIn Ts (va_wsS own index y ws)) (hw : ws = Cond.codeWith y bytes maxL ret hh :: ws') (hrc : rm.cells = mc) (hrs : rm.slots = ms)
    (hd : y.cls ≠ "java/lang/invoke/MethodHandle" ∧ y.cls ≠ "java/lang/invoke/VarHandle" ∧ (parseMethodDescriptor y.desc).map (fun d => d.parameters.length) = some n) (hR : rm.frames + 1 ≤ R.frames ∧ 8 + (maxL + 11) + rm.locals ≤ R.locals) :
    vx_CSW R s args own index y bytes maxL ret hh ws rm mc ms n := by
  have ok : ∀ w ∈ va_wsS own index y ws, w.before args s = true := fun w h => ht w (hT w h).1
  have hG : GoodIn Ts ws := fun w h => hT w (by unfold va_wsS; exact List.mem_append_right _ h)
  have hc : Cond.codeWith y bytes maxL ret hh ∈ ws := by rw [hw]; exact List.mem_cons_self
  refine ⟨⟨hrc, hrs, hR.1, hR.2, pay_in ht hG, hc⟩, ht _ (hG _ hc).1, ok _ (by simp [va_wsS]), ⟨hd.1, hd.2.1⟩, fun sig h => ?_, ok _ (by simp [va_wsS]), ok _ (by simp [va_wsS])⟩
  have h2 := hd.2.2
  rw [h] at h2
  exact (Option.some.inj h2).symm
theorem vx_callSW (X : Stand p l e R s m args below meth c T locs cells slots) (hexec : p.tables.exec = Jvm.exec) {own : String} {index : Nat} {y : MethodName} {bytes : ByteArray} {maxL : Nat} {ret : Option FieldType} {hh : List (Nat × Nat × Nat × Nat)}
    (hown : s.vm.findClass own = some m.cls) (hlink : (Cond.methodLink own index y).before args s = true) (hstat : (Cond.static y).before args s = true) (hinit : (Cond.initialized y.cls).before args s = true)
    (hcode : (Cond.codeWith y bytes maxL ret hh).before args s = true) (hy : y.cls ≠ "java/lang/invoke/MethodHandle" ∧ y.cls ≠ "java/lang/invoke/VarHandle")
    {W9 : Nat} {Pre : Pt → Array Value → Prop} {Post : Pt → Array Value → Option Value → Pt → Prop} (hK : Back l R p e below s args y 3 W9 Pre Post)
    {g : JFrame} (hg : g.method = m) (hsize : g.locals.size = c.maxLocals) {argsL rest : List Value} (hlen : ∀ sig, parseMethodDescriptor y.desc = some sig → argsL.length = sig.parameters.length)
    (hstack : g.stack = argsL.reverse ++ rest) (hW : 2 * g.monitorRoom + (rest.map fun v => v.category).sum ≤ W9) (hdg : decode c.code g.pc = .ok (.invokestatic index, 3))
    (hpre : ∀ vm₁, s.WarmedH vm₁ → Pre ⟨T.setVm vm₁, locs, cells, slots⟩ argsL.toArray) :
    ∃ (v : Option Value) (vm₁ : Vm) (B : Pt), s.WarmedH vm₁ ∧ Stand p l e R s m args below meth c B.U B.locs B.cells B.slots ∧ Post ⟨T.setVm vm₁, locs, cells, slots⟩ argsL.toArray v B ∧
      ∀ target, Steps p.tables e below (B.U.setTop { g with pc := g.pc + 3, stack := v.toList ++ rest }) target → Steps p.tables e below (T.setTop g) target := by
  obtain ⟨mk, methM, cM, hnamed, hmethM, -, -, -, -, -, -, hsigM⟩ := Cond.codeWith_spec hcode
  have hstatic : methM.isStatic = true := Cond.static_spec hnamed hmethM hstat
  obtain ⟨kP, hkP, -⟩ := className_of_methodNamed hnamed
  have hinitP : kP.init = .initialized := Cond.initialized_spec (findClass_of_methodNamed hnamed) hkP hinit
  obtain ⟨vm₁, X₁, hstep₁⟩ := X.invokestatic hexec hown hlink hnamed hmethM hstatic hkP hinitP hy (g := g) hg (argsL := argsL) (rest := rest) (hlen _ hsigM) hstack hdg
  obtain ⟨v, B, X', hpost, hsteps⟩ := hK m meth c ⟨T.setVm vm₁, locs, cells, slots⟩ { g with stack := rest } (.invokestatic index) mk argsL.toArray X₁ hg hsize hdg hW (X₁.named hnamed) (hpre vm₁ X₁.warmed)
  exact ⟨v, vm₁, B, X₁.warmed, X', hpost, fun target h => hstep₁ _ fun acts => by rw [doInvoke_state]; exact hsteps.trans h⟩
theorem vx_runSW {y : MethodName} {bytes cc : ByteArray} {maxL nL mc ms n index : Nat} {ret : Option FieldType} {hh : List (Nat × Nat × Nat × Nat)} {ws : List Cond} {rm : Room} {Pc : Array Value → State → Prop} {Qc : Array Value → State → Outcome → State → Prop} {free : Addr → Prop} {Ts : List Cond} {own : String} {As rest : List Value} {g : JFrame}
    (S : CallFix p m c cc nL s args Ts own) (hM : Met l y ws rm Pc Qc mc ms free) (cw : vx_CSW R s args own index y bytes maxL ret hh ws rm mc ms n) (hp : PreS s H Pc As)
    (hg : g.method = m) (hn : As.length = n) (hsize : g.locals.size = nL) (hstack : g.stack = As.reverse ++ rest) (hW : 2 * g.monitorRoom + (rest.map fun v => v.category).sum ≤ 8) (hdg : decode cc g.pc = .ok (.invokestatic index, 3)) (hf : cells + mc ≤ R.cells ∧ slots + ms ≤ R.slots) :
    va_Run p l e R s m args below meth c H locs cells slots mc ms g rest (Qc As.toArray) (free) := by
  obtain ⟨⟨hrc, hrs, hfr, hlo, hws, hcw⟩, hcode, hini, hy, hlen, hl, hstt⟩ := cw
  have hK : Back l R p e below s args y 3 8 (PreOf R mc ms Pc) (PostOf Qc mc ms free) := va_backW (hh := hh) (bytes := bytes) (maxL := maxL) (ret := ret) hM hp.1 hrc hrs hfr hlo hws hcw (fun a' U hW => word_at hW (Or.inl (by first | rfl | simp [Cond.onTables, Cond.keeps, Cond.steady])) hini)
  obtain ⟨hx, hb, hml, ho, -⟩ := S
  intro T hT X
  obtain ⟨v, vm₁, ⟨U', l2, c2, s2⟩, hW₁, X', ⟨g', mk, t, L, e1, e2, hq, h1, hL, h2, h3⟩, st⟩ := vx_callSW X hx (hh := hh) (bytes := bytes) (maxL := maxL) (ret := ret) ho hl hstt hini hcode hy hK hg (hsize.trans hml.symm) (argsL := As) (rest := rest) (fun sig h => hn.trans (hlen sig h)) hstack hW (by rw [hb]; exact hdg)
    (fun vm₁ hW₁ => ⟨hf.1, hf.2, hp.2 (T.setVm vm₁) hT hW₁⟩)
  dsimp only [Pt.U, Pt.locs, Pt.cells, Pt.slots] at X' e1 e2 h1 h2 h3 st
  subst h1; subst h2; subst h3
  exact ⟨v, (T.setVm vm₁).calling g' mk As.toArray, t, U', L, hT, X', hL, e1, e2, hq, st⟩
/-- not caught here, past rows that name other classes: it goes on to the caller -/
theorem vx_outP {p : Program} {l : Launch} {e : Env} {R : Room} {s : State} {m : MethodId} {args : Array Value} {below : List Frame} {meth : Method} {c : Code} {H : Heap} {locs : List Loc} {cells slots : Nat} {free : Addr → Prop} {ls : Array Slot} {rest : List Value} {Qc : Array Value → State → Outcome → State → Prop} {XC : String → State → State → Prop}
    {pc : Nat} {own E : String} {ce : Cell} {q : Addr} {mc ms : Nat} (hown : s.vm.findClass own = some m.cls) (hlocks : meth.locks = false)
    (hpass : ∀ z ∈ c.exceptionTable.toList, covers z pc = false ∨ (z.catchType ≠ 0 ∧ ∃ nm : String, (Cond.classLink own z.catchType nm).before args s = true ∧ va_Nc E nm s)) (hcell : H[q]? = some ce) (hv : ce.vm = .none) (hcl : s.vm.findClass E = some ce.cls)
    (hx : ∀ t : State, t.heap = H → s.vm.Alike t.vm → XC E s t) (hf : ∀ z ∈ locs, free z.base) (hc : cells ≤ mc) (hs : slots ≤ ms) :
    vx_W p l e R s m args below meth c H locs cells slots (vx_MQ below Qc XC args s mc ms free) (F0 m pc ls rest) q := by
  intro T hT X
  have hpl : e.platform.magicAccessors = ({} : Platform).magicAccessors := by rw [X.admits.platform]
  obtain ⟨vm', hW', X', st⟩ := X.outThrough hlocks q (g := F0 m pc ls rest) rfl rfl rfl (cell := ce) (by rw [hT]; exact hcell) (by rw [hv]; rfl)
    (by obtain ⟨k9, h9, -⟩ := Vm.findClass_spec hcl; exact ⟨k9, h9⟩) (fun z hz => by
      rcases hpass z hz with h | ⟨hz0, nm, hl1, hn1⟩
      · exact Or.inl h
      · obtain ⟨c6, hc6, hcl6⟩ := Cond.classLink_spec hown hl1 e.platform hpl
        obtain ⟨a8, b8, h1, h2, h3⟩ := hn1
        cases Option.some.inj (h1.symm.trans hcl)
        cases Option.some.inj (h2.symm.trans hc6)
        exact Or.inr ⟨hz0, _, hcl6, h3⟩)
  obtain ⟨g₀, hfr⟩ := X'.frames_eq
  have hcell9 : ((T.setVm vm').setFrames (.throwing q :: below)).heap[q]? = some ce := by
    show T.heap[q]? = some ce
    rw [hT]; exact hcell
  have hend : Ended ((T.setVm vm').setFrames (.throwing q :: below)) below (.threw q) := State.frames_setFrames _ (State.cur_lt_of_frames hfr)
  refine ⟨(T.setVm vm').setFrames (.throwing q :: below), ?_, .threw q, X'.here.running, hend, Or.inr ⟨q, rfl, E, ce, locs, hx _ hT (X'.ends _).1.alike, hcell9, hv, hcl, (X'.ends _).1, (X'.ends _).2.mono hc hs, hf⟩⟩
  rw [X.pushThrowing_eq]
  exact st
/-- a thing of a world lies in the heap -/
theorem vx_lt {D : va_G} {cl : List vw_C} {ws : va_W} {H1 : Heap} (h : va_P D cl ws H1) {k : Nat} {q : Nat × va_E} (hk : ws[k]? = some q) : q.1 < H1.size := (h k q hk).lt
end VXS
/-! ===== END ===== -/
/-! ===== BEGIN methods with a table of their own: called by a name, returning or throwing ===== -/
section VXH
/-! vx_backW, vx_callVX, vx_callSX, vx_callVW, vx_runVW, vx_runVX, vx_runSX, vx_ofWH follow the same proofs as their sisters above (Free/Laws.lean, Shelf42/LK1.lean); vx_outP calls Shelf42/NT130.lean (outThrough). -/
section
variable {l : Launch} {R : Room} {p : Program} {e : Env} {below : List Frame} {s : State} {sargs : Array Value} {y : MethodName} {len W9 : Nat}
theorem vx_backW {ws : List Cond} {rm : Room} {Pc : Array Value → State → Prop} {Qc : Array Value → State → Outcome → State → Prop} {XC : String → State → State → Prop} {mc ms : Nat} {free : Addr → Prop} {bytes : ByteArray} {maxL : Nat} {ret : Option FieldType} {hh : List (Nat × Nat × Nat × Nat)}
    (hM : vx_Met l y ws rm Pc Qc XC mc ms free) (hblind : FrameBlind Pc) (hrc : rm.cells = mc) (hrs : rm.slots = ms)
    (hframes : rm.frames + 1 ≤ R.frames) (hlocals : W9 + (maxL + 11) + rm.locals ≤ R.locals)
    (hws : ∀ w ∈ ws, ∀ a' U, s.WarmedH U.vm → w.before a' U = true) (hcode : Cond.codeWith y bytes maxL ret hh ∈ ws) (hinit : ∀ a' U, s.WarmedH U.vm → (Cond.initialized y.cls).before a' U = true) :
    vx_Back l R p e below s sargs y len W9 (PreOf R mc ms Pc) (PostOf Qc mc ms free) (vx_Post XC mc ms free) := by
  intro m meth c A g ig mk a X hg hsize hdg hW hn hp
  have h1 : (headSpec ws rm).pre.before a A.U = true := atoms_intro fun w hw => hws w hw _ _ X.warmed
  have h2 : (Cond.codeWith y bytes maxL ret hh).before a A.U = true := hws _ hcode _ _ X.warmed
  have h3 : (Cond.initialized y.cls).before a A.U = true := hinit _ _ X.warmed
  have h4 : A.cells + (headSpec ws rm).room.cells ≤ R.cells := by rw [show (headSpec ws rm).room.cells = mc from hrc]; exact hp.1
  have h5 : A.slots + (headSpec ws rm).room.slots ≤ R.slots := by rw [show (headSpec ws rm).room.slots = ms from hrs]; exact hp.2.1
  have hPc : Pc a (A.U.calling g mk a) := hblind _ _ _ _ hp.2.2
  obtain ⟨U, Ls, c0, s0⟩ := A
  dsimp only [Pt.U, Pt.locs, Pt.cells, Pt.slots] at h1 h2 h3 h4 h5 X hn hPc ⊢
  obtain ⟨m9, methY, cY, hn9, hmY, hcY, -, hlY, -⟩ := Cond.codeWith_spec h2
  cases Option.some.inj (hn9.symm.trans hn)
  obtain ⟨kY, hkY, -⟩ := className_of_methodNamed hn
  have hinitY : kY.init = .initialized := Cond.initialized_spec (findClass_of_methodNamed hn) hkY h3
  have h : At U g.method c below := by rw [hg]; exact X.here
  have hlocals9 : W9 + (maxL + 11) + (headSpec ws rm).room.locals ≤ R.locals := hlocals
  have happ : (headSpec ws rm).appliesLoose y e.platform (U.calling g mk a) = true :=
    Spec.appliesLoose_calling (g := g) h hdg hn hkY hinitY
      (X.room_calling (g := g) (R' := (headSpec ws rm).room) hsize hmY hcY hframes (by rw [hlY]; omega) h4 h5) h1
  obtain ⟨mid, hmid⟩ := h.above
  have hfr : (U.setTop g).frames = (.java g :: mid) ++ below := by rw [State.frames_setTop' g h.top, hmid]; rfl
  obtain ⟨o, s₂, hsteps, -, hend, hq⟩ := Steps.callFree hM p X.admits X.cas X.clock (acts := []) hfr happ hPc trivial
  have hq' : vx_Q Qc XC mc ms free a (U.calling g mk a) o s₂ := hq
  rw [State.frames_setTop' g h.top] at hend
  obtain ⟨g₀, hg0⟩ := Option.isSome_iff_exists.mp h.top
  obtain ⟨r, hr⟩ := State.topJava?_eq_some.mp hg0
  have hr' : (({ U with heap := s₂.heap, slotsUsed := s₂.slotsUsed } : State).setVm s₂.vm).frames = .java g₀ :: r := hr
  rcases hq' with ⟨hqc, L, hfe, hL⟩ | ⟨q, rfl, E, ce, L, hx, hce, hcv, hcl, hW₂, hsm, hL⟩
  · obtain ⟨⟨v, rfl⟩, hW₂, e2, q2, q3, q4, q5, q6⟩ := id hfe
    have e3 : s₂ = ({ (U.calling g mk a).setFrames s₂.frames with heap := s₂.heap, slotsUsed := s₂.slotsUsed } : State).setVm s₂.vm := by
      have : s₂ = ({ s₂ with vm := (U.calling g mk a).vm } : State).setVm s₂.vm := rfl
      rw [e2] at this
      exact this
    obtain ⟨c₂, i₂, len₂, hc₂, hd₂, hf₂⟩ := hend
    have hW' : U.WarmedH s₂.vm := hW₂
    have hcc : c₂ = c := by
      have h1 : s₂.code? g.method = U.code? g.method := by
        rw [State.code?_eq, State.code?_eq, hW'.alike.method?]
      exact Option.some.inj (hc₂.symm.trans (h1.trans h.code))
    subst hcc
    have hlen : len₂ = len := by rw [hdg] at hd₂; cases hd₂; rfl
    subst hlen
    have hs₂ : s₂ = (({ U with heap := s₂.heap, slotsUsed := s₂.slotsUsed } : State).setVm s₂.vm).setTop { g with pc := g.pc + len₂, stack := v.toList ++ g.stack } := by
      refine e3.trans ?_
      rw [hf₂, State.calling_eq h.top, State.setFrames_setFrames, State.setTop_of_frames _ hr', hr]
      rfl
    have hsame : U.sameButNew ({ U with heap := s₂.heap, slotsUsed := s₂.slotsUsed } : State) L mc ms := by
      refine ⟨?_, q2, q3, q4, q5, q6⟩
      obtain ⟨t, ht, -⟩ := State.frames_cons hr
      show ({ U with heap := s₂.heap, slotsUsed := s₂.slotsUsed } : State) = { U.setFrames U.frames with heap := s₂.heap, slotsUsed := s₂.slotsUsed }
      rw [State.setFrames_self ht]
    subst hg
    refine Or.inl ⟨v, ⟨(({ U with heap := s₂.heap, slotsUsed := s₂.slotsUsed } : State).setVm s₂.vm), Ls ++ L, c0 + mc, s0 + ms⟩,
      ⟨X.admits, X.cas, X.clock, X.frames, X.room, X.hears, X.method, X.code, (X.here.setHeapUsed s₂.heap s₂.slotsUsed).setVm hW'.alike, X.tail, State.WarmedH.trans X.warmed hW', X.limits, X.bytes, X.same.trans (hsame.setVm s.vm)⟩,
      ⟨g, mk, s₂, L, rfl, rfl, hqc, rfl, hL, rfl, rfl⟩, ?_⟩
    show Steps p.tables e below _ ((({ U with heap := s₂.heap, slotsUsed := s₂.slotsUsed } : State).setVm s₂.vm).setTop { g with pc := g.pc + len₂, stack := v.toList ++ g.stack })
    rw [← hs₂]
    exact hsteps
  · obtain ⟨e2, q2, q3, q4, q5, q6⟩ := id hsm
    have e3 : s₂ = ({ (U.calling g mk a).setFrames s₂.frames with heap := s₂.heap, slotsUsed := s₂.slotsUsed } : State).setVm s₂.vm := by
      have : s₂ = ({ s₂ with vm := (U.calling g mk a).vm } : State).setVm s₂.vm := rfl
      rw [e2] at this
      exact this
    have hf₂ : s₂.frames = .throwing q :: .java g :: U.frames.tail := hend
    have hW' : U.WarmedH s₂.vm := hW₂
    have hs₂ : s₂ = ((({ U with heap := s₂.heap, slotsUsed := s₂.slotsUsed } : State).setVm s₂.vm).setTop g).pushFrame (.throwing q) := by
      refine e3.trans ?_
      rw [hf₂, State.calling_eq h.top, State.setFrames_setFrames, State.pushFrame, State.frames_setTop _ hr', State.setTop_of_frames _ hr', State.setFrames_setFrames, hr]
      rfl
    have hsame : U.sameButNew ({ U with heap := s₂.heap, slotsUsed := s₂.slotsUsed } : State) L mc ms := by
      refine ⟨?_, q2, q3, q4, q5, q6⟩
      obtain ⟨t, ht, -⟩ := State.frames_cons hr
      show ({ U with heap := s₂.heap, slotsUsed := s₂.slotsUsed } : State) = { U.setFrames U.frames with heap := s₂.heap, slotsUsed := s₂.slotsUsed }
      rw [State.setFrames_self ht]
    subst hg
    refine Or.inr ⟨q, ⟨(({ U with heap := s₂.heap, slotsUsed := s₂.slotsUsed } : State).setVm s₂.vm), Ls ++ L, c0 + mc, s0 + ms⟩,
      ⟨X.admits, X.cas, X.clock, X.frames, X.room, X.hears, X.method, X.code, (X.here.setHeapUsed s₂.heap s₂.slotsUsed).setVm hW'.alike, X.tail, State.WarmedH.trans X.warmed hW', X.limits, X.bytes, X.same.trans (hsame.setVm s.vm)⟩,
      ⟨g, mk, s₂, L, E, ce, rfl, rfl, hx, hce, hcv, hcl, rfl, hL, rfl, rfl⟩, ?_⟩
    show Steps p.tables e below _ (((({ U with heap := s₂.heap, slotsUsed := s₂.slotsUsed } : State).setVm s₂.vm).setTop g).pushFrame (.throwing q))
    rw [← hs₂]
    exact hsteps
end
variable {p : Program} {l : Launch} {e : Env} {R : Room} {s : State} {m : MethodId} {args : Array Value} {below : List Frame} {meth : Method} {c : Code} {T : State} {H : Heap} {locs : List Loc} {cells slots : Nat}
theorem vx_callVX (X : Stand p l e R s m args below meth c T locs cells slots) (hexec : p.tables.exec = Jvm.exec) {own C : String} {index : Nat} {y : MethodName} {bytes : ByteArray} {maxL : Nat} {ret : Option FieldType} {hh : List (Nat × Nat × Nat × Nat)}
    (hown : s.vm.findClass own = some m.cls) (hlink : (Cond.methodLink own index y).before args s = true) (hinst : (Cond.instanceMethod y).before args s = true) (hsel : (Cond.selects C y y).before args s = true)
    (hcode : (Cond.codeWith y bytes maxL ret hh).before args s = true) (hy : y.cls ≠ "java/lang/invoke/MethodHandle" ∧ y.cls ≠ "java/lang/invoke/VarHandle")
    {W9 : Nat} {Pre : Pt → Array Value → Prop} {Post : Pt → Array Value → Option Value → Pt → Prop} {PostX : Pt → Array Value → Addr → Pt → Prop} (hK : vx_Back l R p e below s args y 3 W9 Pre Post PostX)
    {b : Addr} {cellB : Cell} (hcell : T.heap[b]? = some cellB) (hobj : cellB.vm.isStatics = false) (hcls : s.vm.findClass C = some cellB.cls)
    {g : JFrame} (hg : g.method = m) (hsize : g.locals.size = c.maxLocals) {argsL rest : List Value} (hlen : ∀ sig, parseMethodDescriptor y.desc = some sig → argsL.length = sig.parameters.length)
    (hstack : g.stack = argsL.reverse ++ .ref b :: rest) (hW : 2 * g.monitorRoom + (rest.map fun v => v.category).sum ≤ W9) (hdg : decode c.code g.pc = .ok (.invokevirtual index, 3))
    (hpre : ∀ vm₁, s.WarmedH vm₁ → Pre ⟨T.setVm vm₁, locs, cells, slots⟩ (Value.ref b :: argsL).toArray) :
    (∃ (v : Option Value) (vm₁ : Vm) (B : Pt), s.WarmedH vm₁ ∧ Stand p l e R s m args below meth c B.U B.locs B.cells B.slots ∧ Post ⟨T.setVm vm₁, locs, cells, slots⟩ (Value.ref b :: argsL).toArray v B ∧
      ∀ target, Steps p.tables e below (B.U.setTop { g with pc := g.pc + 3, stack := v.toList ++ rest }) target → Steps p.tables e below (T.setTop g) target) ∨
    (∃ (q : Addr) (vm₁ : Vm) (B : Pt), s.WarmedH vm₁ ∧ Stand p l e R s m args below meth c B.U B.locs B.cells B.slots ∧ PostX ⟨T.setVm vm₁, locs, cells, slots⟩ (Value.ref b :: argsL).toArray q B ∧
      Steps p.tables e below (T.setTop g) ((B.U.setTop { g with stack := rest }).pushFrame (.throwing q))) := by
  obtain ⟨mk, methM, hnamed, hmethM, hstM, habM⟩ := Cond.instanceMethod_spec hinst
  obtain ⟨m8, methM', cM, hn8, hmethM', -, -, -, -, -, -, hsigM⟩ := Cond.codeWith_spec hcode
  cases Option.some.inj (hn8.symm.trans hnamed)
  cases hmethM.symm.trans hmethM'
  obtain ⟨c2, r2, m2, q1, q2, q3, q4, kP, hkP, hkPi⟩ := Cond.selects_spec hsel
  cases hcls.symm.trans q1
  cases (State.methodFound?_of_named hnamed hy).symm.trans q2
  cases hnamed.symm.trans q3
  have hselP : selectMethod e.platform s.vm cellB.cls mk = .method mk := by rw [Launch.admits_selectMethod X.admits]; exact q4
  obtain ⟨vm₁, X₁, hstep₁⟩ := X.invokevirtual hexec hown hlink hnamed hmethM hstM hkP hkPi hy (a := b) (cell := cellB) hcell
    (fun z h => by rw [h] at hobj; cases hobj) hselP hmethM habM hkP hkPi (g := g) hg (argsL := argsL) (rest := rest) (hlen _ hsigM) hstack hdg
  rcases hK m meth c ⟨T.setVm vm₁, locs, cells, slots⟩ { g with stack := rest } (.invokevirtual index) mk (Value.ref b :: argsL).toArray X₁ hg hsize hdg hW (X₁.named hnamed) (hpre vm₁ X₁.warmed) with ⟨v, B, X', hpost, hsteps⟩ | ⟨q, B, X', hpost, hsteps⟩
  · exact Or.inl ⟨v, vm₁, B, X₁.warmed, X', hpost, fun target h => hstep₁ _ fun acts => by rw [doInvoke_state]; exact hsteps.trans h⟩
  · exact Or.inr ⟨q, vm₁, B, X₁.warmed, X', hpost, hstep₁ _ fun acts => by rw [doInvoke_state]; exact hsteps⟩
theorem vx_callSX (X : Stand p l e R s m args below meth c T locs cells slots) (hexec : p.tables.exec = Jvm.exec) {own : String} {index : Nat} {y : MethodName} {bytes : ByteArray} {maxL : Nat} {ret : Option FieldType} {hh : List (Nat × Nat × Nat × Nat)}
    (hown : s.vm.findClass own = some m.cls) (hlink : (Cond.methodLink own index y).before args s = true) (hstat : (Cond.static y).before args s = true) (hinit : (Cond.initialized y.cls).before args s = true)
    (hcode : (Cond.codeWith y bytes maxL ret hh).before args s = true) (hy : y.cls ≠ "java/lang/invoke/MethodHandle" ∧ y.cls ≠ "java/lang/invoke/VarHandle")
    {W9 : Nat} {Pre : Pt → Array Value → Prop} {Post : Pt → Array Value → Option Value → Pt → Prop} {PostX : Pt → Array Value → Addr → Pt → Prop} (hK : vx_Back l R p e below s args y 3 W9 Pre Post PostX)
    {g : JFrame} (hg : g.method = m) (hsize : g.locals.size = c.maxLocals) {argsL rest : List Value} (hlen : ∀ sig, parseMethodDescriptor y.desc = some sig → argsL.length = sig.parameters.length)
    (hstack : g.stack = argsL.reverse ++ rest) (hW : 2 * g.monitorRoom + (rest.map fun v => v.category).sum ≤ W9) (hdg : decode c.code g.pc = .ok (.invokestatic index, 3))
    (hpre : ∀ vm₁, s.WarmedH vm₁ → Pre ⟨T.setVm vm₁, locs, cells, slots⟩ argsL.toArray) :
    (∃ (v : Option Value) (vm₁ : Vm) (B : Pt), s.WarmedH vm₁ ∧ Stand p l e R s m args below meth c B.U B.locs B.cells B.slots ∧ Post ⟨T.setVm vm₁, locs, cells, slots⟩ argsL.toArray v B ∧
      ∀ target, Steps p.tables e below (B.U.setTop { g with pc := g.pc + 3, stack := v.toList ++ rest }) target → Steps p.tables e below (T.setTop g) target) ∨
    (∃ (q : Addr) (vm₁ : Vm) (B : Pt), s.WarmedH vm₁ ∧ Stand p l e R s m args below meth c B.U B.locs B.cells B.slots ∧ PostX ⟨T.setVm vm₁, locs, cells, slots⟩ argsL.toArray q B ∧
      Steps p.tables e below (T.setTop g) ((B.U.setTop { g with stack := rest }).pushFrame (.throwing q))) := by
  obtain ⟨mk, methM, cM, hnamed, hmethM, -, -, -, -, -, -, hsigM⟩ := Cond.codeWith_spec hcode
  have hstatic : methM.isStatic = true := Cond.static_spec hnamed hmethM hstat
  obtain ⟨kP, hkP, -⟩ := className_of_methodNamed hnamed
  have hinitP : kP.init = .initialized := Cond.initialized_spec (findClass_of_methodNamed hnamed) hkP hinit
  obtain ⟨vm₁, X₁, hstep₁⟩ := X.invokestatic hexec hown hlink hnamed hmethM hstatic hkP hinitP hy (g := g) hg (argsL := argsL) (rest := rest) (hlen _ hsigM) hstack hdg
  rcases hK m meth c ⟨T.setVm vm₁, locs, cells, slots⟩ { g with stack := rest } (.invokestatic index) mk argsL.toArray X₁ hg hsize hdg hW (X₁.named hnamed) (hpre vm₁ X₁.warmed) with ⟨v, B, X', hpost, hsteps⟩ | ⟨q, B, X', hpost, hsteps⟩
  · exact Or.inl ⟨v, vm₁, B, X₁.warmed, X', hpost, fun target h => hstep₁ _ fun acts => by rw [doInvoke_state]; exact hsteps.trans h⟩
  · exact Or.inr ⟨q, vm₁, B, X₁.warmed, X', hpost, hstep₁ _ fun acts => by rw [doInvoke_state]; exact hsteps⟩
theorem vx_callVW (X : Stand p l e R s m args below meth c T locs cells slots) (hexec : p.tables.exec = Jvm.exec) {own C : String} {index : Nat} {y : MethodName} {bytes : ByteArray} {maxL : Nat} {ret : Option FieldType} {hh : List (Nat × Nat × Nat × Nat)}
    (hown : s.vm.findClass own = some m.cls) (hlink : (Cond.methodLink own index y).before args s = true) (hinst : (Cond.instanceMethod y).before args s = true) (hsel : (Cond.selects C y y).before args s = true)
    (hcode : (Cond.codeWith y bytes maxL ret hh).before args s = true) (hy : y.cls ≠ "java/lang/invoke/MethodHandle" ∧ y.cls ≠ "java/lang/invoke/VarHandle")
    {W9 : Nat} {Pre : Pt → Array Value → Prop} {Post : Pt → Array Value → Option Value → Pt → Prop} (hK : Back l R p e below s args y 3 W9 Pre Post)
    {b : Addr} {cellB : Cell} (hcell : T.heap[b]? = some cellB) (hobj : cellB.vm.isStatics = false) (hcls : s.vm.findClass C = some cellB.cls)
    {g : JFrame} (hg : g.method = m) (hsize : g.locals.size = c.maxLocals) {argsL rest : List Value} (hlen : ∀ sig, parseMethodDescriptor y.desc = some sig → argsL.length = sig.parameters.length)
    (hstack : g.stack = argsL.reverse ++ .ref b :: rest) (hW : 2 * g.monitorRoom + (rest.map fun v => v.category).sum ≤ W9) (hdg : decode c.code g.pc = .ok (.invokevirtual index, 3))
    (hpre : ∀ vm₁, s.WarmedH vm₁ → Pre ⟨T.setVm vm₁, locs, cells, slots⟩ (Value.ref b :: argsL).toArray) :
    ∃ (v : Option Value) (vm₁ : Vm) (B : Pt), s.WarmedH vm₁ ∧ Stand p l e R s m args below meth c B.U B.locs B.cells B.slots ∧ Post ⟨T.setVm vm₁, locs, cells, slots⟩ (Value.ref b :: argsL).toArray v B ∧
      ∀ target, Steps p.tables e below (B.U.setTop { g with pc := g.pc + 3, stack := v.toList ++ rest }) target → Steps p.tables e below (T.setTop g) target := by
  obtain ⟨mk, methM, hnamed, hmethM, hstM, habM⟩ := Cond.instanceMethod_spec hinst
  obtain ⟨m8, methM', cM, hn8, hmethM', -, -, -, -, -, -, hsigM⟩ := Cond.codeWith_spec hcode
  cases Option.some.inj (hn8.symm.trans hnamed)
  cases hmethM.symm.trans hmethM'
  obtain ⟨c2, r2, m2, q1, q2, q3, q4, kP, hkP, hkPi⟩ := Cond.selects_spec hsel
  cases hcls.symm.trans q1
  cases (State.methodFound?_of_named hnamed hy).symm.trans q2
  cases hnamed.symm.trans q3
  have hselP : selectMethod e.platform s.vm cellB.cls mk = .method mk := by rw [Launch.admits_selectMethod X.admits]; exact q4
  obtain ⟨vm₁, X₁, hstep₁⟩ := X.invokevirtual hexec hown hlink hnamed hmethM hstM hkP hkPi hy (a := b) (cell := cellB) hcell
    (fun z h => by rw [h] at hobj; cases hobj) hselP hmethM habM hkP hkPi (g := g) hg (argsL := argsL) (rest := rest) (hlen _ hsigM) hstack hdg
  obtain ⟨v, B, X', hpost, hsteps⟩ := hK m meth c ⟨T.setVm vm₁, locs, cells, slots⟩ { g with stack := rest } (.invokevirtual index) mk (Value.ref b :: argsL).toArray X₁ hg hsize hdg hW (X₁.named hnamed) (hpre vm₁ X₁.warmed)
  exact ⟨v, vm₁, B, X₁.warmed, X', hpost, fun target h => hstep₁ _ fun acts => by rw [doInvoke_state]; exact hsteps.trans h⟩
abbrev vx_CVW (R : Room) (s : State) (args : Array Value) (own C : String) (index : Nat) (y : MethodName) (bytes : ByteArray) (maxL : Nat) (ret : Option FieldType) (hh : List (Nat × Nat × Nat × Nat)) (ws : List Cond) (rm : Room) (mc ms n : Nat) : Prop :=
  (rm.cells = mc ∧ rm.slots = ms ∧ rm.frames + 1 ≤ R.frames ∧ 8 + (maxL + 11) + rm.locals ≤ R.locals ∧ (∀ w ∈ ws, ∀ (a' : Array Value) (U : State), s.WarmedH U.vm → w.before a' U = true) ∧ Cond.codeWith y bytes maxL ret hh ∈ ws) ∧
  (Cond.codeWith y bytes maxL ret hh).before args s = true ∧ (Cond.initialized y.cls).before args s = true ∧ (y.cls ≠ "java/lang/invoke/MethodHandle" ∧ y.cls ≠ "java/lang/invoke/VarHandle") ∧
  (∀ sig, parseMethodDescriptor y.desc = some sig → n = sig.parameters.length) ∧ (Cond.methodLink own index y).before args s = true ∧ (Cond.instanceMethod y).before args s = true ∧ (Cond.selects C y y).before args s = true
theorem vx_cwVW {own C : String} {index maxL mc ms : Nat} {y : MethodName} {bytes : ByteArray} {ret : Option FieldType} {hh : List (Nat × Nat × Nat × Nat)} {Ts ws ws' : List Cond} {rm : Room} (n : Nat) (ht : ∀ w ∈ Ts, w.before args s = true) (hT : GoodIn Ts (wsV own index C y ws)) (hw : ws = Cond.codeWith y bytes maxL ret hh :: ws') (hrc : rm.cells = mc) (hrs : rm.slots = ms)
    (hd : y.cls = C ∧ y.cls ≠ "java/lang/invoke/MethodHandle" ∧ y.cls ≠ "java/lang/invoke/VarHandle" ∧ (parseMethodDescriptor y.desc).map (fun d => d.parameters.length) = some n) (hR : rm.frames + 1 ≤ R.frames ∧ 8 + (maxL + 11) + rm.locals ≤ R.locals) :
    vx_CVW R s args own C index y bytes maxL ret hh ws rm mc ms n := by
  obtain ⟨hC, hd⟩ := hd
  subst hC
  have ok : ∀ w ∈ wsV own index y.cls y ws, w.before args s = true := fun w h => ht w (hT w h).1
  have hG : GoodIn Ts ws := fun w h => hT w (by unfold wsV; exact List.mem_append_right _ h)
  have hc : Cond.codeWith y bytes maxL ret hh ∈ ws := by rw [hw]; exact List.mem_cons_self
  refine ⟨⟨hrc, hrs, hR.1, hR.2, pay_in ht hG, hc⟩, ht _ (hG _ hc).1, ok _ (by simp [wsV]), ⟨hd.1, hd.2.1⟩, fun sig h => ?_, ok _ (by simp [wsV]), ok _ (by simp [wsV]), ok _ (by simp [wsV])⟩
  have h2 := hd.2.2
  rw [h] at h2
  exact (Option.some.inj h2).symm
theorem vx_runVW {y : MethodName} {bytes cc : ByteArray} {maxL nL mc ms n index : Nat} {ret : Option FieldType} {hh : List (Nat × Nat × Nat × Nat)} {ws : List Cond} {rm : Room} {Pc : Array Value → State → Prop} {Qc : Array Value → State → Outcome → State → Prop} {free : Addr → Prop} {Ts : List Cond} {own C : String} {b : Addr} {As rest : List Value} {g : JFrame}
    (S : CallFix p m c cc nL s args Ts own) (hM : Met l y ws rm Pc Qc mc ms free) (cw : vx_CVW R s args own C index y bytes maxL ret hh ws rm mc ms n) (hp : PreV s H C b Pc As)
    (hg : g.method = m) (hn : As.length = n) (hsize : g.locals.size = nL) (hstack : g.stack = As.reverse ++ .ref b :: rest) (hW : 2 * g.monitorRoom + (rest.map fun v => v.category).sum ≤ 8) (hdg : decode cc g.pc = .ok (.invokevirtual index, 3)) (hf : cells + mc ≤ R.cells ∧ slots + ms ≤ R.slots) :
    va_Run p l e R s m args below meth c H locs cells slots mc ms g rest (Qc (Value.ref b :: As).toArray) free := by
  obtain ⟨⟨hrc, hrs, hfr, hlo, hws, hcw⟩, hcode, hini, hy, hlen, hl, hin, hse⟩ := cw
  have hK : Back l R p e below s args y 3 8 (PreOf R mc ms Pc) (PostOf Qc mc ms free) := va_backW (hh := hh) (bytes := bytes) (maxL := maxL) (ret := ret) hM hp.1 hrc hrs hfr hlo hws hcw (fun a' U hW => word_at hW (Or.inl (by first | rfl | simp [Cond.onTables, Cond.keeps, Cond.steady])) hini)
  obtain ⟨hx, hb, hml, ho, -⟩ := S
  obtain ⟨-, ⟨cellB, hcB, hoB, hclB⟩, hPc⟩ := hp
  intro T hT X
  obtain ⟨v, vm₁, ⟨U', l2, c2, s2⟩, hW₁, X', ⟨g', mk, t, L, e1, e2, hq, h1, hL, h2, h3⟩, st⟩ := vx_callVW X hx (C := C) (hh := hh) (bytes := bytes) (maxL := maxL) (ret := ret) ho hl hin hse hcode hy hK (by rw [hT]; exact hcB) hoB hclB hg (hsize.trans hml.symm) (argsL := As) (rest := rest) (fun sig h => hn.trans (hlen sig h)) hstack hW (by rw [hb]; exact hdg)
    (fun vm₁ hW₁ => ⟨hf.1, hf.2, hPc (T.setVm vm₁) hT hW₁⟩)
  dsimp only [Pt.U, Pt.locs, Pt.cells, Pt.slots] at X' e1 e2 h1 h2 h3 st
  subst h1; subst h2; subst h3
  exact ⟨v, (T.setVm vm₁).calling g' mk (Value.ref b :: As).toArray, t, U', L, hT, X', hL, e1, e2, hq, st⟩
section
variable {y : MethodName} {bytes cc : ByteArray} {maxL nL mc ms n index : Nat} {ret : Option FieldType} {ws : List Cond} {rm : Room} {Pc : Array Value → State → Prop} {Qc : Array Value → State → Outcome → State → Prop} {XC : String → State → State → Prop} {free : Addr → Prop} {Ts : List Cond} {own C : String} {b : Addr} {As rest : List Value} {g : JFrame}
theorem vx_runVX {hh : List (Nat × Nat × Nat × Nat)} (S : CallFix p m c cc nL s args Ts own) (hM : vx_Met l y ws rm Pc Qc XC mc ms free) (cw : vx_CVW R s args own C index y bytes maxL ret hh ws rm mc ms n) (hp : PreV s H C b Pc As)
    (hg : g.method = m) (hn : As.length = n) (hsize : g.locals.size = nL) (hstack : g.stack = As.reverse ++ .ref b :: rest) (hW : 2 * g.monitorRoom + (rest.map fun v => v.category).sum ≤ 8) (hdg : decode cc g.pc = .ok (.invokevirtual index, 3)) (hf : cells + mc ≤ R.cells ∧ slots + ms ≤ R.slots) :
    vx_Run p l e R s m args below meth c H locs cells slots mc ms g rest (Qc (Value.ref b :: As).toArray) XC free := by
  obtain ⟨⟨hrc, hrs, hfr, hlo, hws, hcw⟩, hcode, hini, hy, hlen, hl, hin, hse⟩ := cw
  have hK : vx_Back l R p e below s args y 3 8 (PreOf R mc ms Pc) (PostOf Qc mc ms free) (vx_Post XC mc ms free) := vx_backW (hh := hh) (bytes := bytes) (maxL := maxL) (ret := ret) hM hp.1 hrc hrs hfr hlo hws hcw (fun a' U hW => word_at hW (Or.inl (by first | rfl | simp [Cond.onTables, Cond.keeps, Cond.steady])) hini)
  obtain ⟨hx, hb, hml, ho, -⟩ := S
  obtain ⟨-, ⟨cellB, hcB, hoB, hclB⟩, hPc⟩ := hp
  intro T hT X
  rcases vx_callVX X hx (C := C) (hh := hh) (bytes := bytes) (maxL := maxL) (ret := ret) ho hl hin hse hcode hy hK (by rw [hT]; exact hcB) hoB hclB hg (hsize.trans hml.symm) (argsL := As) (rest := rest) (fun sig h => hn.trans (hlen sig h)) hstack hW (by rw [hb]; exact hdg)
    (fun vm₁ hW₁ => ⟨hf.1, hf.2, hPc (T.setVm vm₁) hT hW₁⟩) with ⟨v, vm₁, ⟨U', l2, c2, s2⟩, hW₁, X', ⟨g', mk, t, L, e1, e2, hq, h1, hL, h2, h3⟩, st⟩ | ⟨q, vm₁, ⟨U', l2, c2, s2⟩, hW₁, X', ⟨g', mk, t, L, E, ce, e1, e2, hq, hce, hcv, hcl, h1, hL, h2, h3⟩, st⟩
  · dsimp only [Pt.U, Pt.locs, Pt.cells, Pt.slots] at X' e1 e2 h1 h2 h3 st
    subst h1; subst h2; subst h3
    exact Or.inl ⟨v, (T.setVm vm₁).calling g' mk (Value.ref b :: As).toArray, t, U', L, hT, X', hL, e1, e2, hq, st⟩
  · dsimp only [Pt.U, Pt.locs, Pt.cells, Pt.slots] at X' e1 e2 h1 h2 h3 st hcl
    subst h1; subst h2; subst h3
    exact Or.inr ⟨q, (T.setVm vm₁).calling g' mk (Value.ref b :: As).toArray, t, U', L, E, ce, hT, X', hL, e1, e2, hq, hce, hcv, vx_cls hW₁ hcl, st⟩
theorem vx_runSX {hh : List (Nat × Nat × Nat × Nat)} (S : CallFix p m c cc nL s args Ts own) (hM : vx_Met l y ws rm Pc Qc XC mc ms free) (cw : vx_CSW R s args own index y bytes maxL ret hh ws rm mc ms n) (hp : PreS s H Pc As)
    (hg : g.method = m) (hn : As.length = n) (hsize : g.locals.size = nL) (hstack : g.stack = As.reverse ++ rest) (hW : 2 * g.monitorRoom + (rest.map fun v => v.category).sum ≤ 8) (hdg : decode cc g.pc = .ok (.invokestatic index, 3)) (hf : cells + mc ≤ R.cells ∧ slots + ms ≤ R.slots) :
    vx_Run p l e R s m args below meth c H locs cells slots mc ms g rest (Qc As.toArray) XC free := by
  obtain ⟨⟨hrc, hrs, hfr, hlo, hws, hcw⟩, hcode, hini, hy, hlen, hl, hstt⟩ := cw
  have hK : vx_Back l R p e below s args y 3 8 (PreOf R mc ms Pc) (PostOf Qc mc ms free) (vx_Post XC mc ms free) := vx_backW (hh := hh) (bytes := bytes) (maxL := maxL) (ret := ret) hM hp.1 hrc hrs hfr hlo hws hcw (fun a' U hW => word_at hW (Or.inl (by first | rfl | simp [Cond.onTables, Cond.keeps, Cond.steady])) hini)
  obtain ⟨hx, hb, hml, ho, -⟩ := S
  intro T hT X
  rcases vx_callSX X hx (hh := hh) (bytes := bytes) (maxL := maxL) (ret := ret) ho hl hstt hini hcode hy hK hg (hsize.trans hml.symm) (argsL := As) (rest := rest) (fun sig h => hn.trans (hlen sig h)) hstack hW (by rw [hb]; exact hdg)
    (fun vm₁ hW₁ => ⟨hf.1, hf.2, hp.2 (T.setVm vm₁) hT hW₁⟩) with ⟨v, vm₁, ⟨U', l2, c2, s2⟩, hW₁, X', ⟨g', mk, t, L, e1, e2, hq, h1, hL, h2, h3⟩, st⟩ | ⟨q, vm₁, ⟨U', l2, c2, s2⟩, hW₁, X', ⟨g', mk, t, L, E, ce, e1, e2, hq, hce, hcv, hcl, h1, hL, h2, h3⟩, st⟩
  · dsimp only [Pt.U, Pt.locs, Pt.cells, Pt.slots] at X' e1 e2 h1 h2 h3 st
    subst h1; subst h2; subst h3
    exact Or.inl ⟨v, (T.setVm vm₁).calling g' mk As.toArray, t, U', L, hT, X', hL, e1, e2, hq, st⟩
  · dsimp only [Pt.U, Pt.locs, Pt.cells, Pt.slots] at X' e1 e2 h1 h2 h3 st hcl
    subst h1; subst h2; subst h3
    exact Or.inr ⟨q, (T.setVm vm₁).calling g' mk As.toArray, t, U', L, E, ce, hT, X', hL, e1, e2, hq, hce, hcv, vx_cls hW₁ hcl, st⟩
end
end VXH
theorem vx_ofWH {l : Launch} {y : MethodName} {ws ws' : List Cond} {rm : Room} {Pc : Array Value → State → Prop} {Qc : Array Value → State → Outcome → State → Prop} {XC : String → State → State → Prop} {mc ms : Nat} {free : Addr → Prop} {cc : ByteArray} {maxL : Nat} {ret : Option FieldType} {hh : List (Nat × Nat × Nat × Nat)}
    (hy : plainName y.cls = true) (hw : ws = Cond.codeWith y cc maxL ret hh :: ws')
    (body : ∀ p e s m args below meth c s₁, BodyLoose p l y (headSpec ws rm) cc maxL ret e s m args below meth c s₁ → c.maxLocals = maxL → Pc args s →
      W p l e (headSpec ws rm).room s m args below meth c s.heap [] 0 0 (vx_MQ below Qc XC args s mc ms free) (entryFrame m args maxL)) : vx_Met l y ws rm Pc Qc XC mc ms free := by
  refine MetFree.of_bodyS (code := cc) (maxLocals := maxL) (ret := ret) hy ?_ ?_
  · intro args s m h hn
    obtain ⟨m9, meth, c, hn9, h1, h2, h3, h4, -, h5, h6, -⟩ := Cond.codeWith_spec (atoms_spec (ws := ws) h _ (by rw [hw]; exact List.mem_cons_self))
    cases hn.symm.trans hn9
    exact ⟨meth, c, h1, h2, h3, h4, h5, h6⟩
  · intro p e s m args below meth c s₁ B hml hP _
    have hh0 : s₁.heap = s.heap := by rw [B.state]; rfl
    obtain ⟨t, a1, o, b1, b2, b3⟩ := body p e s m args below meth c s₁ B hml hP s₁ hh0 (Stand.of_body B)
    exact ⟨t, o, a1, b1, b2, b3⟩
/-! ===== END ===== -/

/-! ===== BEGIN what the machine throws by itself, no traces kept ===== -/
section VXM
set_option maxHeartbeats 1000000 in
/-- the machine throws cls with the message text, no traces kept: from its note over the frame g to 'throwing' over the same frame (follows the proofs of Stand.vmThrowsMessage, Shelf/KitTracedVmS.lean, and Stand.throwsMessageColdBareV, StandMessageColdV.lean, without the step out of the frame) -/
theorem vx_vmAt {p : Program} {l : Launch} {e : Env} {R : Room} {s : State} {m₀ : MethodId} {args : Array Value} {below : List Frame} {meth : Method} {c : Code} {W : State} {locs : List Loc} {cells slots : Nat}
    (X : Stand p l e R s m₀ args below meth c W locs cells slots) (hexec : p.tables.exec = Jvm.exec) (htr : e.platform.stackTraces = false) {cls : String} {names : List String} {text : String}
    (hcls : Bundle.fit cls = true) (hnames : ∀ n ∈ names, Bundle.fit n = true) (hsoe : (cls == "java/lang/StackOverflowError") = false) (hoom : (cls == "java/lang/OutOfMemoryError") = false)
    (h : ∀ a ∈ Bundle.messageArmAtoms cls names, a.before args s = true)
    (hlocs : ∀ x ∈ locs, ∀ cell, s.heap[x.base]? = some cell → cell.vm.isStatics = false)
    (htext : (text == notModelled) = false) (hlimit : ¬ (stringBytes (stringToUtf16 text)).size > e.platform.arrayLengthLimit) (hheap : ¬ (stringBytes (stringToUtf16 text)).size * componentBytes .byte > e.platform.maxHeapBytes)
    {g : JFrame} (hg : g.method = m₀) (hsize : g.locals.size = c.maxLocals)
    (hRframes : names.length + 4 < R.frames) (hRlocals : 2 * g.monitorRoom + (g.stack.map fun v => v.category).sum + 10240 ≤ R.locals) (hshort : 13 * names.length + 55 ≤ 10240)
    (hRcells : cells + 3 ≤ R.cells) (hRslots : slots + ((stringBytes (stringToUtf16 text)).size + 4 + 6) ≤ R.slots) (hlocks : meth.locks = false) :
    ∃ (S : State) (q : Addr) (ce : Cell), (∀ target, Steps p.tables e below ((S.setTop g).pushFrame (.throwing q)) target → Steps p.tables e below ((W.setTop g).pushFrame (.throwNew cls (some text) none)) target) ∧
      Stand p l e R s m₀ args below meth c S locs (cells + 3) (slots + ((stringBytes (stringToUtf16 text)).size + 4 + 6)) ∧ S.heap[q]? = some ce ∧ s.vm.findClass cls = some ce.cls ∧ ce.vm = .none := by
  have howns : e.platform.frameOwnsMonitors = true := by rw [X.admits.platform]
  have hfin : e.platform.finalization = false := by rw [X.admits.platform]
  have hpl : e.platform.magicAccessors = ({} : Platform).magicAccessors := by rw [X.admits.platform]
  have a : ∀ x, x ∈ Bundle.messageArmAtoms cls names → x.holds args s none s [] = true := fun x hx => h x hx
  obtain ⟨T, Z0, L, -, Y⟩ := ThrowableC.of_atoms (args := args) howns hfin hpl (fun x hx => h x (by simp [Bundle.messageArmAtoms, hx]))
  obtain ⟨Z, M, LZ, LM, hnZ⟩ := Init0T.ofS_atoms (args := args) hpl L Y (fun x hx => h x (by simp [Bundle.messageArmAtoms, hx]))
  obtain ⟨P1, Ps, hlen, L1, hL, hP1m, hlink1, hlink⟩ := Bundle.chainS (args := args) hpl hnZ names cls hcls hnames (fun x hx => h x (by simp [Bundle.messageArmAtoms, hx]))
  obtain ⟨Zs, LZs, hn4, hfitv, hfitc⟩ := StringT.of_atoms (args := args) (fun x hx => h x (by simp [Bundle.messageArmAtoms, hx]))
  have hfound : s.vm.findClass cls = some P1.m.cls := findClass_of_methodNamed hP1m
  obtain ⟨c1, kX, hc1, hk, hord, -, -, hn6⟩ := Cond.instantiable_spec (a (.instantiable cls 6) (by simp [Bundle.messageArmAtoms]))
  cases Option.some.inj (hc1.symm.trans hfound)
  have hinit := Cond.initialized_spec hfound hk (a (.initialized cls) (by simp [Bundle.messageArmAtoms]))
  have hctor : kX.findMethod "<init>" "(Ljava/lang/String;)V" = some P1.m.idx := findMethod_of_methodNamed hP1m hk
  have hsel0 : selectMethod e.platform s.vm P1.m.cls T.fill0 = .method T.fill0 := by
    obtain ⟨c2, r2, m2, q1, q2, q3, q4, -⟩ := Cond.selects_spec (a (.selects cls Bundle.tFill0 Bundle.tFill0) (by simp [Bundle.messageArmAtoms]))
    cases Option.some.inj (q1.symm.trans hfound)
    cases Option.some.inj (q2.symm.trans (State.methodFound?_of_named Y.fill0 (by decide)))
    cases Option.some.inj (q3.symm.trans Y.fill0)
    rw [Launch.admits_selectMethod X.admits]; exact q4
  have hselF : selectMethod e.platform s.vm P1.m.cls T.fill = .method T.fill := by
    obtain ⟨c2, r2, m2, q1, q2, q3, q4, -⟩ := Cond.selects_spec (a (.selects cls Bundle.tFill Bundle.tFill) (by simp [Bundle.messageArmAtoms]))
    cases Option.some.inj (q1.symm.trans hfound)
    cases Option.some.inj (q2.symm.trans (State.methodFound?_of_named Y.fill (by decide)))
    cases Option.some.inj (q3.symm.trans Y.fill)
    rw [Launch.admits_selectMethod X.admits]; exact q4
  obtain ⟨cellS0, hcS0, hiss⟩ := Y.statics
  obtain ⟨u0, hu0⟩ := Cond.staticRefV Y.unassigned L.unassignedStatic L.statics hcS0 hiss (a (.isRef (.static Bundle.tN "UNASSIGNED_STACK" Bundle.steD)) (by simp [Bundle.messageArmAtoms]))
  obtain ⟨sen, hsen⟩ := Cond.staticRefV Y.sentinel L.sentinelStatic L.statics hcS0 hiss (a (.isRef (.static Bundle.tN "SUPPRESSED_SENTINEL" Bundle.listD)) (by simp [Bundle.messageArmAtoms]))
  obtain ⟨ci198, i198, fB, hk198, hg198, ha198, hsB, -, hnB, htB, hffB⟩ := Cond.ownField (t := .object "java/lang/Object") Y.found L.cls (by decide +kernel) (a (.fieldLink Bundle.tN 198 Bundle.tN "backtrace" "Ljava/lang/Object;") (by simp [Bundle.messageArmAtoms])) (a (.lays Bundle.tN Bundle.tN "backtrace" "Ljava/lang/Object;") (by simp [Bundle.messageArmAtoms])) e.platform hpl
  obtain ⟨cellS, hcS', heS, -, hkeep⟩ := X.same.2.2.2.2.2 T.aS cellS0 hcS0
  have hcellS : W.heap[T.aS]? = some cellS := hcS'
  have hout' : ∀ i, (⟨T.aS, i⟩ : Loc) ∉ locs := fun i hmem => by
    have := hlocs _ hmem cellS0 hcS0
    rw [hiss] at this; cases this
  have hknownS : cellS.vm ≠ .unknown := by
    rw [heS]; intro hu
    rw [show cellS0.vm = .unknown from hu] at hiss
    cases hiss
  have hvU : cellS.slots[T.fUnassigned.slot]? = some u0.v := by rw [hkeep _ (hout' _)]; exact hu0
  have hvSen : cellS.slots[T.fSentinel.slot]? = some sen.v := by rw [hkeep _ (hout' _)]; exact hsen
  obtain ⟨iM, hffM⟩ := Y.msg
  obtain ⟨tyC, dC, hdC, hdnC⟩ := Cond.laysAt hfound hk Y.cause (a (.lays cls Bundle.tN "cause" "Ljava/lang/Throwable;") (by simp [Bundle.messageArmAtoms]))
  obtain ⟨tyS, dS, hdS, hdnS⟩ := Cond.laysAt hfound hk Y.stack (a (.lays cls Bundle.tN "stackTrace" Bundle.steD) (by simp [Bundle.messageArmAtoms]))
  obtain ⟨tyP, dP, hdP, hdnP⟩ := Cond.laysAt hfound hk Y.supp (a (.lays cls Bundle.tN "suppressedExceptions" Bundle.listD) (by simp [Bundle.messageArmAtoms]))
  obtain ⟨tyM, dM, hdM, hdnM⟩ := Cond.laysAt hfound hk hffM (a (.lays cls Bundle.tN "detailMessage" "Ljava/lang/String;") (by simp [Bundle.messageArmAtoms]))
  obtain ⟨tyB, dB, hdB, hdnB⟩ := Cond.laysAt hfound hk hffB (a (.lays cls Bundle.tN "backtrace" "Ljava/lang/Object;") (by simp [Bundle.messageArmAtoms]))
  have bC := Cond.laysApart hdB hdC hdnB hdnC (by rw [hnB, Y.causeName]; decide)
  have bS := Cond.laysApart hdB hdS hdnB hdnS (by rw [hnB, Y.stackName]; decide)
  have bP := Cond.laysApart hdB hdP hdnB hdnP (by rw [hnB, Y.suppName]; decide)
  have hbk : ((preparedCellV T.toThrowableT (freshCell P1.m.cls kX) (W.heap.size + 2) u0 sen).withEntry W.cur).slots[fB.slot]? = some .null := by
    have := fresh_default (c := P1.m.cls) tyB
    rw [htB] at this
    simpa [preparedCellV, Cell.setSlot, Cell.withEntry, Array.getElem?_setIfInBounds, bC, bS, bP, bC.symm, bS.symm, bP.symm, defaultValue] using this
  have tkC := Takes.of_laid (v := .ref (W.heap.size + 2)) hk hord tyC (by rw [Y.causeType]; rfl)
  have tkS := Takes.of_laid (v := u0.v) hk hord tyS (by rw [Y.stackType]; exact fits_refV_array _ u0)
  have tkP := Takes.of_laid (v := sen.v) hk hord tyP (by rw [Y.suppType]; exact fits_refV_object _ sen)
  have tkM := Takes.of_laid (v := .ref (W.heap.size + 1)) hk hord tyM (by rw [Y.msgType]; rfl)
  have hskip : SkipFacts T e.platform s (fun u => u) u0 ((preparedCellV T.toThrowableT (freshCell P1.m.cls kX) (W.heap.size + 2) u0 sen).withEntry W.cur) := ⟨{ ci198 := ci198, i198 := i198, fBack := fB }, ⟨hk198, hg198, ha198, hsB⟩, hbk, fun _ _ => rfl⟩
  have h0 : At W g.method c below := by rw [hg]; exact X.here
  obtain ⟨hbeyond, hfreeW⟩ := X.vmMayThrow hsize (.throwNew cls (some text) none) (fun f hf => by cases hf) rfl hRlocals
  have hfr' : W.frames.length + Ps.length + 4 < (e.platform.stackLimits W.me).1 := by have := X.framesAbove hRframes; omega
  have hwd' : (stackUse (.java g :: W.frames.tail)).2 + 13 * Ps.length + 55 ≤ (e.platform.stackLimits W.me).2 := by have := X.stackAbove hsize (K := 13 * Ps.length + 55) (by omega); omega
  have hslots : W.slotsUsed + (stringBytes (stringToUtf16 text)).size + Zs.kS.instanceTypes.size + kX.instanceTypes.size ≤ e.platform.maxSlots := by
    have := X.slotsAbove hRslots
    rw [hn4, hn6]
    omega
  obtain ⟨vm', hW', st⟩ := Steps.vmThrowsMessageColdByV p (s₀ := s) (S := W) (g := g) h0 hexec T L Z LZ M LM X.warmed (t := W.cur) rfl Zs LZs P1 L1 Ps hL hlink1 hlink hsoe hoom hfound hk hinit hord hctor
    (Launch.admits_hotImplicitExceptions X.admits) hbeyond hfreeW htext hlimit hheap (X.cellsAbove hRcells) hslots (hfitv _) (hfitc _)
    (Nn := fun u => u) heapOnly_id (fun _ _ => rfl) (fun _ => rfl) (fun u x y => setCell_twice _ _ _ _) (fun _ => Nat.le_refl _) (cN := ((preparedCellV T.toThrowableT (freshCell P1.m.cls kX) (W.heap.size + 2) u0 sen).withEntry W.cur))
    hsel0 hcellS hknownS hvU tkS (fun _ hu => hu) (fun _ hu => hu) rfl rfl rfl (by simp [preparedCellV, Cell.setSlot, Cell.withEntry]) hskip (fun _ _ hA hW _ hroom _ hrest => L.nativeOff p htr hA hW hroom hrest) hselF hvSen tkC tkP tkM Y.objLocals rfl hfr' hwd'
  rw [plainBareV_eq T.toThrowableT (W.heap.size + 2) u0 sen (.ref (W.heap.size + 1)) W.cur rfl rfl] at st
  obtain ⟨-, -, w3, w4, -, -, -⟩ := withThrown_facts e.platform W Zs text P1.m.cls kX
  have X3 := ((X.pushed (bytesOf Zs.cB (stringToUtf16 text))).pushed (stringAt Zs.cS Zs.kS Zs.fv Zs.fc (stringToUtf16 text) W.heap.size)).pushed (freshCell P1.m.cls kX)
  rw [← withString_eq] at X3
  have X4 := X3.noted hW'
  have ha : (W.heap.size + 2) < ((withThrown W Zs text P1.m.cls kX).setVm vm').heap.size := by show _ < (withThrown W Zs text P1.m.cls kX).heap.size; rw [w3]; omega
  have hcell : ((withThrown W Zs text P1.m.cls kX).setVm vm').heap[(W.heap.size + 2)]? = some (freshCell P1.m.cls kX) := w4
  have X5 := ((((X4.stored hcell T.fCause.slot (.ref (W.heap.size + 2))).storedAgain ha T.fStack.slot u0.v).storedAgain ha T.fSupp.slot sen.v).storedAgain ha T.fStack.slot u0.v).storedAgain ha T.fMsg.slot (.ref (W.heap.size + 1))
  obtain ⟨g₁, hfrM⟩ := X5.frames_eq
  have hU : ((((withThrown W Zs text P1.m.cls kX).setVm vm').setCell (W.heap.size + 2) (plainBareV T.toThrowableT (freshCell P1.m.cls kX) (W.heap.size + 2) u0 sen (.ref (W.heap.size + 1)))).setTop g).pushFrame (.throwing (W.heap.size + 2)) = (((withThrown W Zs text P1.m.cls kX).setVm vm').setCell (W.heap.size + 2) (plainBareV T.toThrowableT (freshCell P1.m.cls kX) (W.heap.size + 2) u0 sen (.ref (W.heap.size + 1)))).setFrames (.throwing (W.heap.size + 2) :: .java g :: below) := by
    rw [State.pushFrame, State.frames_setTop _ hfrM, State.setTop_of_frames _ hfrM, State.setFrames_setFrames]
  have b1 : (bytesOf Zs.cB (stringToUtf16 text)).slots.size = (stringBytes (stringToUtf16 text)).size := by
    rw [(Cell.writeAll_facts _ _).2.2]; simp [bytes0]
  have b2 : (stringAt Zs.cS Zs.kS Zs.fv Zs.fc (stringToUtf16 text) W.heap.size).slots.size = 4 := by simp [string0, Cell.setSlot, hn4]
  have b3 : (freshCell P1.m.cls kX).slots.size = 6 := by simp [hn6]
  rw [b1, b2, b3] at X5
  have e9 : slots + (stringBytes (stringToUtf16 text)).size + 4 + 6 = slots + ((stringBytes (stringToUtf16 text)).size + 4 + 6) := by omega
  rw [e9] at X5
  simp only [List.append_assoc, List.cons_append, List.nil_append] at X5
  refine ⟨((withThrown W Zs text P1.m.cls kX).setVm vm').setCell (W.heap.size + 2) (plainBareV T.toThrowableT (freshCell P1.m.cls kX) (W.heap.size + 2) u0 sen (.ref (W.heap.size + 1))), W.heap.size + 2, _, fun target ht => st _ (by rw [X.tail, ← hU]; exact ht),
    X5.forget (fun y hy => ?_), heapAt_setCell_self _ ha, hfound, rfl⟩
  simp only [List.mem_cons, List.not_mem_nil, or_false] at hy
  have hge : s.heap.size ≤ W.heap.size := X.same.2.1
  rcases hy with rfl | rfl | rfl | rfl | rfl <;> exact Nat.le_trans hge (Nat.le_add_right _ 2)
set_option maxHeartbeats 1000000 in
/-- the machine throws NullPointerException, no traces kept: from its note over the frame g to 'throwing' over the same frame (follows the proof of Stand.vmThrowsNpe, Shelf42/KT2.lean; throwsNpeColdBareVAt, Shelf42/NT91.lean, called) -/
theorem vx_npeAt {p : Program} {l : Launch} {e : Env} {R : Room} {s : State} {m₀ : MethodId} {args : Array Value} {below : List Frame} {meth : Method} {c : Code} {W : State} {locs : List Loc} {cells slots : Nat}
    (X : Stand p l e R s m₀ args below meth c W locs cells slots) (hexec : p.tables.exec = Jvm.exec) (htr : e.platform.stackTraces = false) {n : Nat}
    (h : ∀ a ∈ Bundle.npeArmAtoms n, a.before args s = true)
    (hlocs : ∀ x ∈ locs, ∀ cell, s.heap[x.base]? = some cell → cell.vm.isStatics = false)
    {g : JFrame} (hg : g.method = m₀) (hsize : g.locals.size = c.maxLocals)
    (hRframes : 7 < R.frames) (hRlocals : 2 * g.monitorRoom + (g.stack.map fun v => v.category).sum + 10240 ≤ R.locals)
    (hRcells : cells + 1 ≤ R.cells) (hRslots : slots + n ≤ R.slots) (hlocks : meth.locks = false) :
    ∃ (S : State) (q : Addr) (ce : Cell), (∀ target, Steps p.tables e below ((S.setTop g).pushFrame (.throwing q)) target → Steps p.tables e below ((W.setTop g).pushFrame (.throwNew "java/lang/NullPointerException" none none)) target) ∧
      Stand p l e R s m₀ args below meth c S locs (cells + 1) (slots + n) ∧ S.heap[q]? = some ce ∧ s.vm.findClass "java/lang/NullPointerException" = some ce.cls ∧ ce.vm = .none := by
  have howns : e.platform.frameOwnsMonitors = true := by rw [X.admits.platform]
  have hfin : e.platform.finalization = false := by rw [X.admits.platform]
  have hpl : e.platform.magicAccessors = ({} : Platform).magicAccessors := by rw [X.admits.platform]
  have hpl2 : e.platform.arrayCloneIsPublic = true := by rw [X.admits.platform]
  have a' : ∀ x, x ∈ Bundle.npeArmAtoms n → x.holds args s none s [] = true := fun x hx => h x hx
  obtain ⟨T, Z, L, LZ, Y⟩ := ThrowableC.of_atoms (args := args) howns hfin hpl (fun x hx => h x (by simp [Bundle.npeArmAtoms, hx]))
  obtain ⟨N, LN, hcN, hnNF, hordN, hffS⟩ := NpeC.of_atoms (args := args) hpl hpl2 L Y (fun x hx => h x (by simp [Bundle.npeArmAtoms, hx]))
  obtain ⟨P1, L1, hP1m, hP1s⟩ := PassC.of_atoms (args := args) (s := s) hpl (X := Bundle.nN) (Y := Bundle.rN) (by decide) (by decide) LibCode.NullPointerException.Init0.at_0 LibCode.NullPointerException.Init0.at_1 LibCode.NullPointerException.Init0.at_4 (fun x hx => h x (by simp [Bundle.npeArmAtoms, hx]))
  obtain ⟨PR, LR, hPRm, hPRs⟩ := PassC.of_atoms (args := args) (s := s) hpl (X := Bundle.rN) (Y := Bundle.eN) (by decide) (by decide) LibCode.RuntimeException.Init0.at_0 LibCode.RuntimeException.Init0.at_1 LibCode.RuntimeException.Init0.at_4 (fun x hx => h x (by simp [Bundle.npeArmAtoms, hx]))
  obtain ⟨PE, LEx, hPEm, hPEs⟩ := PassC.of_atoms (args := args) (s := s) hpl (X := Bundle.eN) (Y := Bundle.tN) (by decide) (by decide) LibCode.Exception.Init0.at_0 LibCode.Exception.Init0.at_1 LibCode.Exception.Init0.at_4 (fun x hx => h x (by simp [Bundle.npeArmAtoms, hx]))
  have hfound : s.vm.findClass Bundle.nN = some P1.m.cls := findClass_of_methodNamed hP1m
  have ecls : N.cN = P1.m.cls := Option.some.inj (hcN.symm.trans hfound)
  have hk : s.vm.classes[P1.m.cls]? = some N.kN := by rw [← ecls]; exact LN.cls
  have hinit := Cond.initialized_spec hfound hk (a' (.initialized Bundle.nN) (by simp [Bundle.npeArmAtoms]))
  have hctor : N.kN.findMethod "<init>" "()V" = some P1.m.idx := findMethod_of_methodNamed hP1m hk
  obtain ⟨c1, k1, hc1, hk1, -, -, -, hn⟩ := Cond.instantiable_spec (a' (.instantiable Bundle.nN n) (by simp [Bundle.npeArmAtoms]))
  cases Option.some.inj (hc1.symm.trans hfound)
  cases Option.some.inj (hk1.symm.trans hk)
  have hfsz : (freshCell P1.m.cls N.kN).slots.size = n := by simp [hn]
  have hlink1 : P1.sup = PR.m := Option.some.inj (hP1s.symm.trans hPRm)
  have hlinkR : PR.sup = PE.m := Option.some.inj (hPRs.symm.trans hPEm)
  have hlinkE : PE.sup = Z.m T.toThrowableT := Option.some.inj (hPEs.symm.trans Y.init0)
  have hLs : ∀ P, P ∈ [PR, PE] → P.Links0 e.platform s := fun P hP => by
    simp only [List.mem_cons, List.not_mem_nil, or_false] at hP
    rcases hP with rfl | rfl
    · exact LR
    · exact LEx
  have hsel0 : selectMethod e.platform s.vm P1.m.cls T.fill0 = .method T.fill0 := by
    obtain ⟨c2, r2, m2, q1, q2, q3, q4, -⟩ := Cond.selects_spec (a' (.selects Bundle.nN Bundle.tFill0 Bundle.tFill0) (by simp [Bundle.npeArmAtoms]))
    cases Option.some.inj (q1.symm.trans hfound)
    cases Option.some.inj (q2.symm.trans (State.methodFound?_of_named Y.fill0 (by decide)))
    cases Option.some.inj (q3.symm.trans Y.fill0)
    rw [Launch.admits_selectMethod X.admits]; exact q4
  have hselF : selectMethod e.platform s.vm P1.m.cls T.fill = .method N.fill := by
    obtain ⟨c2, r2, m2, q1, q2, q3, q4, -⟩ := Cond.selects_spec (a' (.selects Bundle.nN Bundle.tFill Bundle.nFill) (by simp [Bundle.npeArmAtoms]))
    cases Option.some.inj (q1.symm.trans hfound)
    cases Option.some.inj (q2.symm.trans (State.methodFound?_of_named Y.fill (by decide)))
    cases Option.some.inj (q3.symm.trans hnNF)
    rw [Launch.admits_selectMethod X.admits]; exact q4
  obtain ⟨cellS0, hcS0, hiss⟩ := Y.statics
  obtain ⟨u0, hu0⟩ := Cond.staticRefV Y.unassigned L.unassignedStatic L.statics hcS0 hiss (a' (.isRef (.static Bundle.tN "UNASSIGNED_STACK" Bundle.steD)) (by simp [Bundle.npeArmAtoms]))
  obtain ⟨sen, hsen⟩ := Cond.staticRefV Y.sentinel L.sentinelStatic L.statics hcS0 hiss (a' (.isRef (.static Bundle.tN "SUPPRESSED_SENTINEL" Bundle.listD)) (by simp [Bundle.npeArmAtoms]))
  obtain ⟨ci198, i198, fB, hk198, hg198, ha198, hsB, -, hnB, htB, hffB⟩ := Cond.ownField (t := .object "java/lang/Object") Y.found L.cls (by decide +kernel) (a' (.fieldLink Bundle.tN 198 Bundle.tN "backtrace" Bundle.objD) (by simp [Bundle.npeArmAtoms])) (a' (.lays Bundle.tN Bundle.tN "backtrace" Bundle.objD) (by simp [Bundle.npeArmAtoms])) e.platform hpl
  obtain ⟨cellS, hcS', heS, -, hkeep⟩ := X.same.2.2.2.2.2 T.aS cellS0 hcS0
  have hcellS : W.heap[T.aS]? = some cellS := hcS'
  have hout' : ∀ i, (⟨T.aS, i⟩ : Loc) ∉ locs := fun i hmem => by
    have := hlocs _ hmem cellS0 hcS0
    rw [hiss] at this; cases this
  have hknownS : cellS.vm ≠ .unknown := by
    rw [heS]; intro hu
    rw [show cellS0.vm = .unknown from hu] at hiss
    cases hiss
  have hvU : cellS.slots[T.fUnassigned.slot]? = some u0.v := by rw [hkeep _ (hout' _)]; exact hu0
  have hvSen : cellS.slots[T.fSentinel.slot]? = some sen.v := by rw [hkeep _ (hout' _)]; exact hsen
  obtain ⟨tyC, dC, hdC, hdnC⟩ := Cond.laysAt hfound hk Y.cause (a' (.lays Bundle.nN Bundle.tN "cause" "Ljava/lang/Throwable;") (by simp [Bundle.npeArmAtoms]))
  obtain ⟨tyS, dS, hdS, hdnS⟩ := Cond.laysAt hfound hk Y.stack (a' (.lays Bundle.nN Bundle.tN "stackTrace" Bundle.steD) (by simp [Bundle.npeArmAtoms]))
  obtain ⟨tyP, dP, hdP, hdnP⟩ := Cond.laysAt hfound hk Y.supp (a' (.lays Bundle.nN Bundle.tN "suppressedExceptions" Bundle.listD) (by simp [Bundle.npeArmAtoms]))
  obtain ⟨tyX, dX, hdX, hdnX⟩ := Cond.laysAt hfound hk hffS (a' (.lays Bundle.nN Bundle.nN "extendedMessageState" "I") (by simp [Bundle.npeArmAtoms, Bundle.npeAtoms]))
  obtain ⟨hnX, htX⟩ := State.fieldFound?_type hffS (t := .int) (by decide +kernel)
  have xC := Cond.laysApart hdC hdX hdnC hdnX (by rw [hnX, Y.causeName]; decide)
  have xS := Cond.laysApart hdS hdX hdnS hdnX (by rw [hnX, Y.stackName]; decide)
  have xP := Cond.laysApart hdP hdX hdnP hdnX (by rw [hnX, Y.suppName]; decide)
  have hv0 : (freshCell P1.m.cls N.kN).slots[N.fState.slot]? = some (.int 0) := by
    have := fresh_default (c := P1.m.cls) tyX
    rw [htX] at this; exact this
  obtain ⟨tyB, dB, hdB, hdnB⟩ := Cond.laysAt hfound hk hffB (a' (.lays Bundle.nN Bundle.tN "backtrace" Bundle.objD) (by simp [Bundle.npeArmAtoms]))
  have bC := Cond.laysApart hdB hdC hdnB hdnC (by rw [hnB, Y.causeName]; decide)
  have bS := Cond.laysApart hdB hdS hdnB hdnS (by rw [hnB, Y.stackName]; decide)
  have bP := Cond.laysApart hdB hdP hdnB hdnP (by rw [hnB, Y.suppName]; decide)
  have bX := Cond.laysApart hdB hdX hdnB hdnX (by rw [hnB, hnX]; decide)
  have hbk : ((npeCell N.toNpeT (preparedCellV T.toThrowableT (freshCell P1.m.cls N.kN) W.heap.size u0 sen) W.cur).withEntry W.cur).slots[fB.slot]? = some .null := by
    have := fresh_default (c := P1.m.cls) tyB
    rw [htB] at this
    simpa [npeCell, preparedCellV, Cell.setSlot, Cell.withEntry, Array.getElem?_setIfInBounds, bC, bS, bP, bX, bC.symm, bS.symm, bP.symm, bX.symm, defaultValue] using this
  have tkC := Takes.of_laid (v := .ref W.heap.size) hk hordN tyC (by rw [Y.causeType]; rfl)
  have tkS := Takes.of_laid (v := u0.v) hk hordN tyS (by rw [Y.stackType]; exact fits_refV_array _ u0)
  have tkP := Takes.of_laid (v := sen.v) hk hordN tyP (by rw [Y.suppType]; exact fits_refV_object _ sen)
  have tkX := Takes.of_laid (v := .int 1) hk hordN tyX (by rw [htX]; rfl)
  have hskip : SkipFacts T e.platform s (fun u => u) u0 ((npeCell N.toNpeT (preparedCellV T.toThrowableT (freshCell P1.m.cls N.kN) W.heap.size u0 sen) W.cur).withEntry W.cur) := ⟨{ ci198 := ci198, i198 := i198, fBack := fB }, ⟨hk198, hg198, ha198, hsB⟩, hbk, fun _ _ => rfl⟩
  obtain ⟨vm', X3, st, -⟩ := X.throwsNpeColdBareVAt hexec hg hsize T L Z LZ N LN P1 L1 [PR, PE] hLs hlink1 ⟨hlinkR, hlinkE, trivial⟩ hfound hk hinit hordN hctor hsel0 hselF hcellS hknownS hvU hvSen
    hv0 xC xS xP tkC tkS tkP tkX Y.objLocals hskip (fun _ _ hA hW _ hroom _ hrest => L.nativeOff p htr hA hW hroom hrest) (by simpa using hRframes) hRlocals (by simp) hRcells (by rw [hn]; exact hRslots)
  have hlt : W.heap.size < ((W.pushCell (freshCell P1.m.cls N.kN)).setVm vm').heap.size := by
    show W.heap.size < (W.pushCell (freshCell P1.m.cls N.kN)).heap.size
    rw [State.heap_size_pushCell]; omega
  rw [hfsz] at X3
  obtain ⟨g₁, hfrM⟩ := X3.frames_eq
  have hU : ((((W.pushCell (freshCell P1.m.cls N.kN)).setVm vm').setCell W.heap.size (npeBareV T.toThrowableT N.toNpeT (freshCell P1.m.cls N.kN) W.heap.size u0 sen)).setTop g).pushFrame (.throwing W.heap.size) = (((W.pushCell (freshCell P1.m.cls N.kN)).setVm vm').setCell W.heap.size (npeBareV T.toThrowableT N.toNpeT (freshCell P1.m.cls N.kN) W.heap.size u0 sen)).setFrames (.throwing W.heap.size :: .java g :: below) := by
    rw [State.pushFrame, State.frames_setTop _ hfrM, State.setTop_of_frames _ hfrM, State.setFrames_setFrames]
  refine ⟨_, W.heap.size, _, fun target ht => st.trans (by rw [← hU]; exact ht), X3.forget (fun y hy => ?_), heapAt_setCell_self _ hlt, hfound, rfl⟩
  simp only [List.mem_cons, List.not_mem_nil, or_false] at hy
  have hge : s.heap.size ≤ W.heap.size := X.same.2.1
  rcases hy with rfl | rfl | rfl | rfl | rfl <;> exact hge
/-- the words of a machine's NullPointerException, but the four that speak of the heap -/
def vx_atN (n : Nat) : List Cond := (Bundle.npeArmAtoms n).filter vx_no
/-- the words of a machine's throw with a message, but the four that speak of the heap -/
def vx_atM (X : String) (names : List String) : List Cond := (Bundle.messageArmAtoms X names).filter vx_no
section
variable {p : Program} {l : Launch} {e : Env} {R : Room} {s : State} {m : MethodId} {args : Array Value} {below : List Frame} {meth : Method} {c : Code} {H : Heap} {locs : List Loc} {cells slots : Nat}
/-- a frame seen from a rebased start, seen from the first start again -/
theorem vx_back9 {T S : State} {R' : Room} {k n : Nat} (X : Stand p l e R s m args below meth c T locs cells slots) (Y : Stand p l e R' ((T.setVm s.vm).setFrames (.invoking m args :: below)) m args below meth c T [] 0 0) (Z : Stand p l e R' ((T.setVm s.vm).setFrames (.invoking m args :: below)) m args below meth c S [] k n) :
    Stand p l e R s m args below meth c S locs (cells + k) (slots + n) := by
  have hW0 : s.WarmedH ((T.setVm s.vm).setFrames (.invoking m args :: below)).vm := State.WarmedH.refl s
  refine { admits := X.admits, cas := X.cas, clock := X.clock, frames := X.frames, room := X.room, hears := X.hears, method := X.method, code := X.code, here := Z.here, tail := Z.tail, warmed := State.WarmedH.trans hW0 Z.warmed, limits := Z.limits.trans (Y.limits.symm.trans X.limits), bytes := Z.bytes.trans (Y.bytes.symm.trans X.bytes), same := ?_ }
  obtain ⟨e1, e2⟩ := Z.same
  rw [State.setFrames_setFrames] at e1
  have h2 : (T.setVm s.vm).sameButNew (S.setVm s.vm) [] k n := ⟨e1, e2⟩
  have h3 := X.same.trans h2
  rw [List.append_nil] at h3
  exact h3
/-- from the machine's note that E is thrown here with this text -/
def vx_Note (p : Program) (l : Launch) (e : Env) (R : Room) (s : State) (m : MethodId) (args : Array Value) (below : List Frame) (meth : Method) (c : Code) (H : Heap) (locs : List Loc) (cells slots : Nat) (Q : State → Prop) (g : JFrame) (E text : String) : Prop :=
  ∀ T : State, T.heap = H → Stand p l e R s m args below meth c T locs cells slots → ∃ t, Steps p.tables e below ((T.setTop g).pushFrame (.throwNew E (some text) none)) t ∧ Q t
theorem vx_vm {pc : Nat} {ls : Array Slot} {rest : List Value} {Q : State → Prop} (hexec : p.tables.exec = Jvm.exec) (hl : l.stackTraces = false) {cls text : String} {names : List String} {nb : Nat} {A : Nat → Prop}
    (hcls : Bundle.fit cls = true) (hnames : ∀ n ∈ names, Bundle.fit n = true) (hsoe : (cls == "java/lang/StackOverflowError") = false) (hoom : (cls == "java/lang/OutOfMemoryError") = false)
    (hat : ∀ w ∈ vx_atM cls names, w.before args s = true) (hgood : ∀ w ∈ vx_atM cls names, vx_ot w = true)
    (hU : vx_Zq Bundle.tN "UNASSIGNED_STACK" Bundle.steD A s s.heap) (hN : vx_Zq Bundle.tN "SUPPRESSED_SENTINEL" Bundle.listD A s s.heap) (hS : va_S A s.heap H locs) (hsize : ls.size = c.maxLocals)
    (htext : (text == notModelled) = false) (hnb : (stringBytes (stringToUtf16 text)).size ≤ nb) (hnb1 : nb ≤ 1000)
    (hRframes : names.length + 4 < R.frames) (hRlocals : (rest.map fun v => v.category).sum + 10240 ≤ R.locals) (hshort : 13 * names.length + 55 ≤ 10240) (hRcells : cells + 3 ≤ R.cells) (hRslots : slots + (nb + 10) ≤ R.slots) (hlocks : meth.locks = false)
    (k : ∀ (H1 : Heap) (q9 : Addr) (ce : Cell), H.size ≤ H1.size → (∀ q : Nat, q < H.size → H1[q]? = H[q]?) → va_S A s.heap H1 locs → H1[q9]? = some ce → ce.vm = .none → s.vm.findClass cls = some ce.cls → vx_W p l e R s m args below meth c H1 locs (cells + 3) (slots + (nb + 10)) Q (F0 m pc ls rest) q9) :
    vx_Note p l e R s m args below meth c H locs cells slots Q (F0 m pc ls rest) cls text := by
  intro T hT X
  have htr : e.platform.stackTraces = false := (show e.platform.stackTraces = l.stackTraces by rw [X.admits.platform]).trans hl
  have Y := vx_rebase X (R' := { frames := R.frames, locals := R.locals, cells := 3, slots := nb + 10 }) (Nat.le_refl _) (Nat.le_refl _) hRcells hRslots
  have hhp : ((T.setVm s.vm).setFrames (.invoking m args :: below)).heap = H := hT
  have hW0 : s.WarmedH ((T.setVm s.vm).setFrames (.invoking m args :: below)).vm := State.WarmedH.refl s
  have hat' : ∀ w ∈ vx_atM cls names, w.before args ((T.setVm s.vm).setFrames (.invoking m args :: below)) = true := fun w hw => vx_ot_at hW0 rfl (hgood w hw) (hat w hw)
  have hU' : vx_Zq Bundle.tN "UNASSIGNED_STACK" Bundle.steD A ((T.setVm s.vm).setFrames (.invoking m args :: below)) ((T.setVm s.vm).setFrames (.invoking m args :: below)).heap := by rw [hhp]; exact vx_Zq.moved hW0.alike (hU.kept hS.2.1)
  have hN' : vx_Zq Bundle.tN "SUPPRESSED_SENTINEL" Bundle.listD A ((T.setVm s.vm).setFrames (.invoking m args :: below)) ((T.setVm s.vm).setFrames (.invoking m args :: below)).heap := by rw [hhp]; exact vx_Zq.moved hW0.alike (hN.kept hS.2.1)
  obtain ⟨S, q, ce, st, Z, hce, hcl', hv⟩ := vx_vmAt Y hexec htr (cls := cls) (names := names) (text := text) hcls hnames hsoe hoom (vx_own hat' (vx_isRefq hU'.1) (vx_isRefq hN'.1) hU'.2.word hN'.2.word) (fun x hx => nomatch hx) htext
    (by rw [Launch.admits_arrayLengthLimit X.admits]; omega) (by rw [Launch.admits_maxHeapBytes X.admits]; simp only [componentBytes]; omega)
    (g := F0 m pc ls rest) rfl hsize hRframes (by show 2 * 0 + (rest.map fun v => v.category).sum + 10240 ≤ R.locals; omega) hshort (by show 0 + 3 ≤ 3; omega) (by show 0 + (_ + 4 + 6) ≤ nb + 10; omega) hlocks
  obtain ⟨f1, f2⟩ := vx_frame Z.same
  have f1' : H.size ≤ S.heap.size := by rw [← hT]; exact f1
  have f2' : ∀ q : Nat, q < H.size → S.heap[q]? = H[q]? := fun q hq => by
    rw [← hT]
    exact f2 q (by rw [← hT] at hq; exact hq) (fun z hz => nomatch hz)
  have X5 := vx_back9 X Y Z
  have X6 : Stand p l e R s m args below meth c S locs (cells + 3) (slots + (nb + 10)) := { X5 with same := X5.same.mono (by omega) (by omega) }
  obtain ⟨t, a1, b1⟩ := k S.heap q ce f1' f2' ⟨Nat.le_trans hS.1 f1', fun q h1 h2 => (f2' q (Nat.lt_of_lt_of_le h1 hS.1)).trans (hS.2.1 q h1 h2), hS.2.2⟩ hce hv hcl' S rfl X6
  exact ⟨t, st t a1, b1⟩
/-- from the machine's note that NullPointerException is thrown here -/
def vx_NoteN (p : Program) (l : Launch) (e : Env) (R : Room) (s : State) (m : MethodId) (args : Array Value) (below : List Frame) (meth : Method) (c : Code) (H : Heap) (locs : List Loc) (cells slots : Nat) (Q : State → Prop) (g : JFrame) : Prop :=
  ∀ T : State, T.heap = H → Stand p l e R s m args below meth c T locs cells slots → ∃ t, Steps p.tables e below ((T.setTop g).pushFrame (.throwNew "java/lang/NullPointerException" none none)) t ∧ Q t
theorem vx_npe {pc : Nat} {ls : Array Slot} {rest : List Value} {Q : State → Prop} (hexec : p.tables.exec = Jvm.exec) (hl : l.stackTraces = false) {nb : Nat} {A : Nat → Prop}
    (hat : ∀ w ∈ vx_atN nb, w.before args s = true) (hgood : ∀ w ∈ vx_atN nb, vx_ot w = true)
    (hU : vx_Zq Bundle.tN "UNASSIGNED_STACK" Bundle.steD A s s.heap) (hN : vx_Zq Bundle.tN "SUPPRESSED_SENTINEL" Bundle.listD A s s.heap) (hS : va_S A s.heap H locs) (hsize : ls.size = c.maxLocals)
    (hRframes : 7 < R.frames) (hRlocals : (rest.map fun v => v.category).sum + 10240 ≤ R.locals) (hRcells : cells + 1 ≤ R.cells) (hRslots : slots + nb ≤ R.slots) (hlocks : meth.locks = false)
    (k : ∀ (H1 : Heap) (q9 : Addr) (ce : Cell), H.size ≤ H1.size → (∀ q : Nat, q < H.size → H1[q]? = H[q]?) → va_S A s.heap H1 locs → H1[q9]? = some ce → ce.vm = .none → s.vm.findClass "java/lang/NullPointerException" = some ce.cls → vx_W p l e R s m args below meth c H1 locs (cells + 1) (slots + nb) Q (F0 m pc ls rest) q9) :
    vx_NoteN p l e R s m args below meth c H locs cells slots Q (F0 m pc ls rest) := by
  intro T hT X
  have htr : e.platform.stackTraces = false := (show e.platform.stackTraces = l.stackTraces by rw [X.admits.platform]).trans hl
  have Y := vx_rebase X (R' := { frames := R.frames, locals := R.locals, cells := 1, slots := nb }) (Nat.le_refl _) (Nat.le_refl _) hRcells hRslots
  have hhp : ((T.setVm s.vm).setFrames (.invoking m args :: below)).heap = H := hT
  have hW0 : s.WarmedH ((T.setVm s.vm).setFrames (.invoking m args :: below)).vm := State.WarmedH.refl s
  have hat' : ∀ w ∈ vx_atN nb, w.before args ((T.setVm s.vm).setFrames (.invoking m args :: below)) = true := fun w hw => vx_ot_at hW0 rfl (hgood w hw) (hat w hw)
  have hU' : vx_Zq Bundle.tN "UNASSIGNED_STACK" Bundle.steD A ((T.setVm s.vm).setFrames (.invoking m args :: below)) ((T.setVm s.vm).setFrames (.invoking m args :: below)).heap := by rw [hhp]; exact vx_Zq.moved hW0.alike (hU.kept hS.2.1)
  have hN' : vx_Zq Bundle.tN "SUPPRESSED_SENTINEL" Bundle.listD A ((T.setVm s.vm).setFrames (.invoking m args :: below)) ((T.setVm s.vm).setFrames (.invoking m args :: below)).heap := by rw [hhp]; exact vx_Zq.moved hW0.alike (hN.kept hS.2.1)
  obtain ⟨S, q, ce, st, Z, hce, hcl', hv⟩ := vx_npeAt Y hexec htr (n := nb) (vx_own hat' (vx_isRefq hU'.1) (vx_isRefq hN'.1) hU'.2.word hN'.2.word) (fun x hx => nomatch hx)
    (g := F0 m pc ls rest) rfl hsize hRframes (by show 2 * 0 + (rest.map fun v => v.category).sum + 10240 ≤ R.locals; omega) (by show 0 + 1 ≤ 1; omega) (by show 0 + nb ≤ nb; omega) hlocks
  obtain ⟨f1, f2⟩ := vx_frame Z.same
  have f1' : H.size ≤ S.heap.size := by rw [← hT]; exact f1
  have f2' : ∀ q : Nat, q < H.size → S.heap[q]? = H[q]? := fun q hq => by
    rw [← hT]
    exact f2 q (by rw [← hT] at hq; exact hq) (fun z hz => nomatch hz)
  have X5 := vx_back9 X Y Z
  have X6 : Stand p l e R s m args below meth c S locs (cells + 1) (slots + nb) := { X5 with same := X5.same.mono (by omega) (by omega) }
  obtain ⟨t, a1, b1⟩ := k S.heap q ce f1' f2' ⟨Nat.le_trans hS.1 f1', fun q h1 h2 => (f2' q (Nat.lt_of_lt_of_le h1 hS.1)).trans (hS.2.1 q h1 h2), hS.2.2⟩ hce hv hcl' S rfl X6
  exact ⟨t, st t a1, b1⟩
variable {Q : State → Prop} {cc : ByteArray} {pc : Nat} {ls : Array Slot} {rest : List Value}
theorem vx_idivZ (hexec : p.tables.exec = Jvm.exec) (hb : c.code = cc) {a b : Int32} (h0 : b = 0) (d : decode cc pc = .ok (.idiv, 1)) (k : vx_Note p l e R s m args below meth c H locs cells slots Q (F0 m pc ls rest) "java/lang/ArithmeticException" "/ by zero") :
    W p l e R s m args below meth c H locs cells slots Q (F0 m pc ls (.int b :: .int a :: rest)) := by
  intro T hT X
  obtain ⟨t, st, q⟩ := k T hT X
  exact ⟨t, X.idivZero hexec (g := F0 m pc ls (.int b :: .int a :: rest)) rfl (a := a) (rest := rest) (by rw [h0]) (by rw [hb]; exact d) t st, q⟩
theorem vx_iremZ (hexec : p.tables.exec = Jvm.exec) (hb : c.code = cc) {a b : Int32} (h0 : b = 0) (d : decode cc pc = .ok (.irem, 1)) (k : vx_Note p l e R s m args below meth c H locs cells slots Q (F0 m pc ls rest) "java/lang/ArithmeticException" "/ by zero") :
    W p l e R s m args below meth c H locs cells slots Q (F0 m pc ls (.int b :: .int a :: rest)) := by
  intro T hT X
  obtain ⟨t, st, q⟩ := k T hT X
  exact ⟨t, X.iremZero hexec (g := F0 m pc ls (.int b :: .int a :: rest)) rfl (a := a) (rest := rest) (by rw [h0]) (by rw [hb]; exact d) t st, q⟩
theorem vx_ldivZ (hexec : p.tables.exec = Jvm.exec) (hb : c.code = cc) {a b : Int64} (h0 : b = 0) (d : decode cc pc = .ok (.ldiv, 1)) (k : vx_Note p l e R s m args below meth c H locs cells slots Q (F0 m pc ls rest) "java/lang/ArithmeticException" "/ by zero") :
    W p l e R s m args below meth c H locs cells slots Q (F0 m pc ls (.long b :: .long a :: rest)) := by
  intro T hT X
  obtain ⟨t, st, q⟩ := k T hT X
  exact ⟨t, X.ldivZero hexec (g := F0 m pc ls (.long b :: .long a :: rest)) rfl (a := a) (rest := rest) (by rw [h0]) (by rw [hb]; exact d) t st, q⟩
theorem vx_lremZ (hexec : p.tables.exec = Jvm.exec) (hb : c.code = cc) {a b : Int64} (h0 : b = 0) (d : decode cc pc = .ok (.lrem, 1)) (k : vx_Note p l e R s m args below meth c H locs cells slots Q (F0 m pc ls rest) "java/lang/ArithmeticException" "/ by zero") :
    W p l e R s m args below meth c H locs cells slots Q (F0 m pc ls (.long b :: .long a :: rest)) := by
  intro T hT X
  obtain ⟨t, st, q⟩ := k T hT X
  exact ⟨t, X.lremZero hexec (g := F0 m pc ls (.long b :: .long a :: rest)) rfl (a := a) (rest := rest) (by rw [h0]) (by rw [hb]; exact d) t st, q⟩
theorem vx_ialdZ {D : va_G} {cl : List vw_C} {ws : va_W} {tys : List (ClassId × FieldType)} {a : Nat} (hexec : p.tables.exec = Jvm.exec) (hb : c.code = cc) (hK : va_K D cl tys s) (hP : va_P D cl ws H) (q0 t0 : Nat) {cA : ClassId} {n : Nat} {f : Nat → Int32} (ha : ws[q0]? = some (a, .inl (cA, n, .inl f))) (ht : tys[t0]? = some (cA, .int)) {i : Int32} (hout : ¬ vp_in i n) (hdg : decode cc pc = .ok (.iaload, 1))
    (k : ∀ tx : String, tx = (toString "Index " ++ toString i ++ toString " out of bounds for length " ++ toString n : String) → vx_Note p l e R s m args below meth c H locs cells slots Q (F0 m pc ls rest) "java/lang/ArrayIndexOutOfBoundsException" tx) : W p l e R s m args below meth c H locs cells slots Q (F0 m pc ls (.int i :: .ref a :: rest)) := by
  intro T hT X
  obtain ⟨t, st, q⟩ := k _ rfl T hT X
  refine ⟨t, ?_, q⟩
  have h1 := X.ialoadOut hexec (by rw [hT]; exact hP q0 _ ha) ((hK.2 t0 _ ht).1 n (fun j => .int (f j))) (j := i) (by show (i < 0 ∨ (arrV _ _ _).slots.size ≤ _); rw [arrV_size]; exact Classical.byContradiction hout) (g := F0 m pc ls (.int i :: .ref a :: rest)) rfl (rest := rest) rfl (by rw [hb]; exact hdg) t
  simp only [arrV_size] at h1
  exact h1 st
theorem vx_iastZ {D : va_G} {cl : List vw_C} {ws : va_W} {tys : List (ClassId × FieldType)} {a : Nat} (hexec : p.tables.exec = Jvm.exec) (hb : c.code = cc) (hK : va_K D cl tys s) (hP : va_P D cl ws H) (q0 t0 : Nat) {cA : ClassId} {n : Nat} {f : Nat → Int32} (ha : ws[q0]? = some (a, .inl (cA, n, .inl f))) (ht : tys[t0]? = some (cA, .int)) {i : Int32} {x : Int32} (hout : ¬ vp_in i n) (hdg : decode cc pc = .ok (.iastore, 1))
    (k : ∀ tx : String, tx = (toString "Index " ++ toString i ++ toString " out of bounds for length " ++ toString n : String) → vx_Note p l e R s m args below meth c H locs cells slots Q (F0 m pc ls rest) "java/lang/ArrayIndexOutOfBoundsException" tx) : W p l e R s m args below meth c H locs cells slots Q (F0 m pc ls (.int x :: .int i :: .ref a :: rest)) := by
  intro T hT X
  obtain ⟨t, st, q⟩ := k _ rfl T hT X
  refine ⟨t, ?_, q⟩
  have h1 := X.iastoreOut hexec (by rw [hT]; exact hP q0 _ ha) ((hK.2 t0 _ ht).1 n (fun j => .int (f j))) (j := i) (by show (i < 0 ∨ (arrV _ _ _).slots.size ≤ _); rw [arrV_size]; exact Classical.byContradiction hout) (g := F0 m pc ls (.int x :: .int i :: .ref a :: rest)) rfl (rest := rest) rfl (by rw [hb]; exact hdg) t
  simp only [arrV_size] at h1
  exact h1 st
theorem vx_baldZ {D : va_G} {cl : List vw_C} {ws : va_W} {tys : List (ClassId × FieldType)} {a : Nat} (hexec : p.tables.exec = Jvm.exec) (hb : c.code = cc) (hK : va_K D cl tys s) (hP : va_P D cl ws H) (q0 t0 : Nat) {cA : ClassId} {n : Nat} {f : Nat → Int32} (ha : ws[q0]? = some (a, .inl (cA, n, .inl f))) (ht : tys[t0]? = some (cA, .byte)) {i : Int32} (hout : ¬ vp_in i n) (hdg : decode cc pc = .ok (.baload, 1))
    (k : ∀ tx : String, tx = (toString "Index " ++ toString i ++ toString " out of bounds for length " ++ toString n : String) → vx_Note p l e R s m args below meth c H locs cells slots Q (F0 m pc ls rest) "java/lang/ArrayIndexOutOfBoundsException" tx) : W p l e R s m args below meth c H locs cells slots Q (F0 m pc ls (.int i :: .ref a :: rest)) := by
  intro T hT X
  obtain ⟨t, st, q⟩ := k _ rfl T hT X
  refine ⟨t, ?_, q⟩
  have h1 := X.baloadOut hexec (by rw [hT]; exact hP q0 _ ha) ((hK.2 t0 _ ht).1 n (fun j => .int (f j))) (j := i) (by show (i < 0 ∨ (arrV _ _ _).slots.size ≤ _); rw [arrV_size]; exact Classical.byContradiction hout) (g := F0 m pc ls (.int i :: .ref a :: rest)) rfl (rest := rest) rfl (by rw [hb]; exact hdg) t
  simp only [arrV_size] at h1
  exact h1 st
theorem vx_bastZ {D : va_G} {cl : List vw_C} {ws : va_W} {tys : List (ClassId × FieldType)} {a : Nat} (hexec : p.tables.exec = Jvm.exec) (hb : c.code = cc) (hK : va_K D cl tys s) (hP : va_P D cl ws H) (q0 t0 : Nat) {cA : ClassId} {n : Nat} {f : Nat → Int32} (ha : ws[q0]? = some (a, .inl (cA, n, .inl f))) (ht : tys[t0]? = some (cA, .byte)) {i : Int32} {x : Int32} (hout : ¬ vp_in i n) (hdg : decode cc pc = .ok (.bastore, 1))
    (k : ∀ tx : String, tx = (toString "Index " ++ toString i ++ toString " out of bounds for length " ++ toString n : String) → vx_Note p l e R s m args below meth c H locs cells slots Q (F0 m pc ls rest) "java/lang/ArrayIndexOutOfBoundsException" tx) : W p l e R s m args below meth c H locs cells slots Q (F0 m pc ls (.int x :: .int i :: .ref a :: rest)) := by
  intro T hT X
  obtain ⟨t, st, q⟩ := k _ rfl T hT X
  refine ⟨t, ?_, q⟩
  have h1 := X.bastoreOut hexec (by rw [hT]; exact hP q0 _ ha) ((hK.2 t0 _ ht).1 n (fun j => .int (f j))) (j := i) (by show (i < 0 ∨ (arrV _ _ _).slots.size ≤ _); rw [arrV_size]; exact Classical.byContradiction hout) (g := F0 m pc ls (.int x :: .int i :: .ref a :: rest)) rfl (rest := rest) rfl (by rw [hb]; exact hdg) t
  simp only [arrV_size] at h1
  exact h1 st
theorem vx_zaldZ {D : va_G} {cl : List vw_C} {ws : va_W} {tys : List (ClassId × FieldType)} {a : Nat} (hexec : p.tables.exec = Jvm.exec) (hb : c.code = cc) (hK : va_K D cl tys s) (hP : va_P D cl ws H) (q0 t0 : Nat) {cA : ClassId} {n : Nat} {f : Nat → Int32} (ha : ws[q0]? = some (a, .inl (cA, n, .inl f))) (ht : tys[t0]? = some (cA, .boolean)) {i : Int32} (hout : ¬ vp_in i n) (hdg : decode cc pc = .ok (.baload, 1))
    (k : ∀ tx : String, tx = (toString "Index " ++ toString i ++ toString " out of bounds for length " ++ toString n : String) → vx_Note p l e R s m args below meth c H locs cells slots Q (F0 m pc ls rest) "java/lang/ArrayIndexOutOfBoundsException" tx) : W p l e R s m args below meth c H locs cells slots Q (F0 m pc ls (.int i :: .ref a :: rest)) := by
  intro T hT X
  obtain ⟨t, st, q⟩ := k _ rfl T hT X
  refine ⟨t, ?_, q⟩
  have h1 := X.baloadOut hexec (by rw [hT]; exact hP q0 _ ha) ((hK.2 t0 _ ht).1 n (fun j => .int (f j))) (j := i) (by show (i < 0 ∨ (arrV _ _ _).slots.size ≤ _); rw [arrV_size]; exact Classical.byContradiction hout) (g := F0 m pc ls (.int i :: .ref a :: rest)) rfl (rest := rest) rfl (by rw [hb]; exact hdg) t
  simp only [arrV_size] at h1
  exact h1 st
theorem vx_zastZ {D : va_G} {cl : List vw_C} {ws : va_W} {tys : List (ClassId × FieldType)} {a : Nat} (hexec : p.tables.exec = Jvm.exec) (hb : c.code = cc) (hK : va_K D cl tys s) (hP : va_P D cl ws H) (q0 t0 : Nat) {cA : ClassId} {n : Nat} {f : Nat → Int32} (ha : ws[q0]? = some (a, .inl (cA, n, .inl f))) (ht : tys[t0]? = some (cA, .boolean)) {i : Int32} {x : Int32} (hout : ¬ vp_in i n) (hdg : decode cc pc = .ok (.bastore, 1))
    (k : ∀ tx : String, tx = (toString "Index " ++ toString i ++ toString " out of bounds for length " ++ toString n : String) → vx_Note p l e R s m args below meth c H locs cells slots Q (F0 m pc ls rest) "java/lang/ArrayIndexOutOfBoundsException" tx) : W p l e R s m args below meth c H locs cells slots Q (F0 m pc ls (.int x :: .int i :: .ref a :: rest)) := by
  intro T hT X
  obtain ⟨t, st, q⟩ := k _ rfl T hT X
  refine ⟨t, ?_, q⟩
  have h1 := X.bastoreOut hexec (by rw [hT]; exact hP q0 _ ha) ((hK.2 t0 _ ht).1 n (fun j => .int (f j))) (j := i) (by show (i < 0 ∨ (arrV _ _ _).slots.size ≤ _); rw [arrV_size]; exact Classical.byContradiction hout) (g := F0 m pc ls (.int x :: .int i :: .ref a :: rest)) rfl (rest := rest) rfl (by rw [hb]; exact hdg) t
  simp only [arrV_size] at h1
  exact h1 st
theorem vx_caldZ {D : va_G} {cl : List vw_C} {ws : va_W} {tys : List (ClassId × FieldType)} {a : Nat} (hexec : p.tables.exec = Jvm.exec) (hb : c.code = cc) (hK : va_K D cl tys s) (hP : va_P D cl ws H) (q0 t0 : Nat) {cA : ClassId} {n : Nat} {f : Nat → Int32} (ha : ws[q0]? = some (a, .inl (cA, n, .inl f))) (ht : tys[t0]? = some (cA, .char)) {i : Int32} (hout : ¬ vp_in i n) (hdg : decode cc pc = .ok (.caload, 1))
    (k : ∀ tx : String, tx = (toString "Index " ++ toString i ++ toString " out of bounds for length " ++ toString n : String) → vx_Note p l e R s m args below meth c H locs cells slots Q (F0 m pc ls rest) "java/lang/ArrayIndexOutOfBoundsException" tx) : W p l e R s m args below meth c H locs cells slots Q (F0 m pc ls (.int i :: .ref a :: rest)) := by
  intro T hT X
  obtain ⟨t, st, q⟩ := k _ rfl T hT X
  refine ⟨t, ?_, q⟩
  have h1 := X.caloadOut hexec (by rw [hT]; exact hP q0 _ ha) ((hK.2 t0 _ ht).1 n (fun j => .int (f j))) (j := i) (by show (i < 0 ∨ (arrV _ _ _).slots.size ≤ _); rw [arrV_size]; exact Classical.byContradiction hout) (g := F0 m pc ls (.int i :: .ref a :: rest)) rfl (rest := rest) rfl (by rw [hb]; exact hdg) t
  simp only [arrV_size] at h1
  exact h1 st
theorem vx_castZ {D : va_G} {cl : List vw_C} {ws : va_W} {tys : List (ClassId × FieldType)} {a : Nat} (hexec : p.tables.exec = Jvm.exec) (hb : c.code = cc) (hK : va_K D cl tys s) (hP : va_P D cl ws H) (q0 t0 : Nat) {cA : ClassId} {n : Nat} {f : Nat → Int32} (ha : ws[q0]? = some (a, .inl (cA, n, .inl f))) (ht : tys[t0]? = some (cA, .char)) {i : Int32} {x : Int32} (hout : ¬ vp_in i n) (hdg : decode cc pc = .ok (.castore, 1))
    (k : ∀ tx : String, tx = (toString "Index " ++ toString i ++ toString " out of bounds for length " ++ toString n : String) → vx_Note p l e R s m args below meth c H locs cells slots Q (F0 m pc ls rest) "java/lang/ArrayIndexOutOfBoundsException" tx) : W p l e R s m args below meth c H locs cells slots Q (F0 m pc ls (.int x :: .int i :: .ref a :: rest)) := by
  intro T hT X
  obtain ⟨t, st, q⟩ := k _ rfl T hT X
  refine ⟨t, ?_, q⟩
  have h1 := X.castoreOut hexec (by rw [hT]; exact hP q0 _ ha) ((hK.2 t0 _ ht).1 n (fun j => .int (f j))) (j := i) (by show (i < 0 ∨ (arrV _ _ _).slots.size ≤ _); rw [arrV_size]; exact Classical.byContradiction hout) (g := F0 m pc ls (.int x :: .int i :: .ref a :: rest)) rfl (rest := rest) rfl (by rw [hb]; exact hdg) t
  simp only [arrV_size] at h1
  exact h1 st
theorem vx_saldZ {D : va_G} {cl : List vw_C} {ws : va_W} {tys : List (ClassId × FieldType)} {a : Nat} (hexec : p.tables.exec = Jvm.exec) (hb : c.code = cc) (hK : va_K D cl tys s) (hP : va_P D cl ws H) (q0 t0 : Nat) {cA : ClassId} {n : Nat} {f : Nat → Int32} (ha : ws[q0]? = some (a, .inl (cA, n, .inl f))) (ht : tys[t0]? = some (cA, .short)) {i : Int32} (hout : ¬ vp_in i n) (hdg : decode cc pc = .ok (.saload, 1))
    (k : ∀ tx : String, tx = (toString "Index " ++ toString i ++ toString " out of bounds for length " ++ toString n : String) → vx_Note p l e R s m args below meth c H locs cells slots Q (F0 m pc ls rest) "java/lang/ArrayIndexOutOfBoundsException" tx) : W p l e R s m args below meth c H locs cells slots Q (F0 m pc ls (.int i :: .ref a :: rest)) := by
  intro T hT X
  obtain ⟨t, st, q⟩ := k _ rfl T hT X
  refine ⟨t, ?_, q⟩
  have h1 := X.saloadOut hexec (by rw [hT]; exact hP q0 _ ha) ((hK.2 t0 _ ht).1 n (fun j => .int (f j))) (j := i) (by show (i < 0 ∨ (arrV _ _ _).slots.size ≤ _); rw [arrV_size]; exact Classical.byContradiction hout) (g := F0 m pc ls (.int i :: .ref a :: rest)) rfl (rest := rest) rfl (by rw [hb]; exact hdg) t
  simp only [arrV_size] at h1
  exact h1 st
theorem vx_sastZ {D : va_G} {cl : List vw_C} {ws : va_W} {tys : List (ClassId × FieldType)} {a : Nat} (hexec : p.tables.exec = Jvm.exec) (hb : c.code = cc) (hK : va_K D cl tys s) (hP : va_P D cl ws H) (q0 t0 : Nat) {cA : ClassId} {n : Nat} {f : Nat → Int32} (ha : ws[q0]? = some (a, .inl (cA, n, .inl f))) (ht : tys[t0]? = some (cA, .short)) {i : Int32} {x : Int32} (hout : ¬ vp_in i n) (hdg : decode cc pc = .ok (.sastore, 1))
    (k : ∀ tx : String, tx = (toString "Index " ++ toString i ++ toString " out of bounds for length " ++ toString n : String) → vx_Note p l e R s m args below meth c H locs cells slots Q (F0 m pc ls rest) "java/lang/ArrayIndexOutOfBoundsException" tx) : W p l e R s m args below meth c H locs cells slots Q (F0 m pc ls (.int x :: .int i :: .ref a :: rest)) := by
  intro T hT X
  obtain ⟨t, st, q⟩ := k _ rfl T hT X
  refine ⟨t, ?_, q⟩
  have h1 := X.sastoreOut hexec (by rw [hT]; exact hP q0 _ ha) ((hK.2 t0 _ ht).1 n (fun j => .int (f j))) (j := i) (by show (i < 0 ∨ (arrV _ _ _).slots.size ≤ _); rw [arrV_size]; exact Classical.byContradiction hout) (g := F0 m pc ls (.int x :: .int i :: .ref a :: rest)) rfl (rest := rest) rfl (by rw [hb]; exact hdg) t
  simp only [arrV_size] at h1
  exact h1 st
theorem vx_laldZ {D : va_G} {cl : List vw_C} {ws : va_W} {tys : List (ClassId × FieldType)} {a : Nat} (hexec : p.tables.exec = Jvm.exec) (hb : c.code = cc) (hK : va_K D cl tys s) (hP : va_P D cl ws H) (q0 t0 : Nat) {cA : ClassId} {n : Nat} {f : Nat → Int64} (ha : ws[q0]? = some (a, .inl (cA, n, .inr (.inl f)))) (ht : tys[t0]? = some (cA, .long)) {i : Int32} (hout : ¬ vp_in i n) (hdg : decode cc pc = .ok (.laload, 1))
    (k : ∀ tx : String, tx = (toString "Index " ++ toString i ++ toString " out of bounds for length " ++ toString n : String) → vx_Note p l e R s m args below meth c H locs cells slots Q (F0 m pc ls rest) "java/lang/ArrayIndexOutOfBoundsException" tx) : W p l e R s m args below meth c H locs cells slots Q (F0 m pc ls (.int i :: .ref a :: rest)) := by
  intro T hT X
  obtain ⟨t, st, q⟩ := k _ rfl T hT X
  refine ⟨t, ?_, q⟩
  have h1 := X.laloadOut hexec (by rw [hT]; exact hP q0 _ ha) ((hK.2 t0 _ ht).1 n (fun j => .long (f j))) (j := i) (by show (i < 0 ∨ (arrV _ _ _).slots.size ≤ _); rw [arrV_size]; exact Classical.byContradiction hout) (g := F0 m pc ls (.int i :: .ref a :: rest)) rfl (rest := rest) rfl (by rw [hb]; exact hdg) t
  simp only [arrV_size] at h1
  exact h1 st
theorem vx_lastZ {D : va_G} {cl : List vw_C} {ws : va_W} {tys : List (ClassId × FieldType)} {a : Nat} (hexec : p.tables.exec = Jvm.exec) (hb : c.code = cc) (hK : va_K D cl tys s) (hP : va_P D cl ws H) (q0 t0 : Nat) {cA : ClassId} {n : Nat} {f : Nat → Int64} (ha : ws[q0]? = some (a, .inl (cA, n, .inr (.inl f)))) (ht : tys[t0]? = some (cA, .long)) {i : Int32} {x : Int64} (hout : ¬ vp_in i n) (hdg : decode cc pc = .ok (.lastore, 1))
    (k : ∀ tx : String, tx = (toString "Index " ++ toString i ++ toString " out of bounds for length " ++ toString n : String) → vx_Note p l e R s m args below meth c H locs cells slots Q (F0 m pc ls rest) "java/lang/ArrayIndexOutOfBoundsException" tx) : W p l e R s m args below meth c H locs cells slots Q (F0 m pc ls (.long x :: .int i :: .ref a :: rest)) := by
  intro T hT X
  obtain ⟨t, st, q⟩ := k _ rfl T hT X
  refine ⟨t, ?_, q⟩
  have h1 := X.lastoreOut hexec (by rw [hT]; exact hP q0 _ ha) ((hK.2 t0 _ ht).1 n (fun j => .long (f j))) (j := i) (by show (i < 0 ∨ (arrV _ _ _).slots.size ≤ _); rw [arrV_size]; exact Classical.byContradiction hout) (g := F0 m pc ls (.long x :: .int i :: .ref a :: rest)) rfl (rest := rest) rfl (by rw [hb]; exact hdg) t
  simp only [arrV_size] at h1
  exact h1 st
theorem vx_faldZ {D : va_G} {cl : List vw_C} {ws : va_W} {tys : List (ClassId × FieldType)} {a : Nat} (hexec : p.tables.exec = Jvm.exec) (hb : c.code = cc) (hK : va_K D cl tys s) (hP : va_P D cl ws H) (q0 t0 : Nat) {cA : ClassId} {n : Nat} {f : Nat → UInt32} (ha : ws[q0]? = some (a, .inl (cA, n, .inr (.inr (.inl f))))) (ht : tys[t0]? = some (cA, .float)) {i : Int32} (hout : ¬ vp_in i n) (hdg : decode cc pc = .ok (.faload, 1))
    (k : ∀ tx : String, tx = (toString "Index " ++ toString i ++ toString " out of bounds for length " ++ toString n : String) → vx_Note p l e R s m args below meth c H locs cells slots Q (F0 m pc ls rest) "java/lang/ArrayIndexOutOfBoundsException" tx) : W p l e R s m args below meth c H locs cells slots Q (F0 m pc ls (.int i :: .ref a :: rest)) := by
  intro T hT X
  obtain ⟨t, st, q⟩ := k _ rfl T hT X
  refine ⟨t, ?_, q⟩
  have h1 := X.faloadOut hexec (by rw [hT]; exact hP q0 _ ha) ((hK.2 t0 _ ht).1 n (fun j => .float (f j))) (j := i) (by show (i < 0 ∨ (arrV _ _ _).slots.size ≤ _); rw [arrV_size]; exact Classical.byContradiction hout) (g := F0 m pc ls (.int i :: .ref a :: rest)) rfl (rest := rest) rfl (by rw [hb]; exact hdg) t
  simp only [arrV_size] at h1
  exact h1 st
theorem vx_fastZ {D : va_G} {cl : List vw_C} {ws : va_W} {tys : List (ClassId × FieldType)} {a : Nat} (hexec : p.tables.exec = Jvm.exec) (hb : c.code = cc) (hK : va_K D cl tys s) (hP : va_P D cl ws H) (q0 t0 : Nat) {cA : ClassId} {n : Nat} {f : Nat → UInt32} (ha : ws[q0]? = some (a, .inl (cA, n, .inr (.inr (.inl f))))) (ht : tys[t0]? = some (cA, .float)) {i : Int32} {x : UInt32} (hout : ¬ vp_in i n) (hdg : decode cc pc = .ok (.fastore, 1))
    (k : ∀ tx : String, tx = (toString "Index " ++ toString i ++ toString " out of bounds for length " ++ toString n : String) → vx_Note p l e R s m args below meth c H locs cells slots Q (F0 m pc ls rest) "java/lang/ArrayIndexOutOfBoundsException" tx) : W p l e R s m args below meth c H locs cells slots Q (F0 m pc ls (.float x :: .int i :: .ref a :: rest)) := by
  intro T hT X
  obtain ⟨t, st, q⟩ := k _ rfl T hT X
  refine ⟨t, ?_, q⟩
  have h1 := X.fastoreOut hexec (by rw [hT]; exact hP q0 _ ha) ((hK.2 t0 _ ht).1 n (fun j => .float (f j))) (j := i) (by show (i < 0 ∨ (arrV _ _ _).slots.size ≤ _); rw [arrV_size]; exact Classical.byContradiction hout) (g := F0 m pc ls (.float x :: .int i :: .ref a :: rest)) rfl (rest := rest) rfl (by rw [hb]; exact hdg) t
  simp only [arrV_size] at h1
  exact h1 st
theorem vx_daldZ {D : va_G} {cl : List vw_C} {ws : va_W} {tys : List (ClassId × FieldType)} {a : Nat} (hexec : p.tables.exec = Jvm.exec) (hb : c.code = cc) (hK : va_K D cl tys s) (hP : va_P D cl ws H) (q0 t0 : Nat) {cA : ClassId} {n : Nat} {f : Nat → UInt64} (ha : ws[q0]? = some (a, .inl (cA, n, .inr (.inr (.inr (.inl f)))))) (ht : tys[t0]? = some (cA, .double)) {i : Int32} (hout : ¬ vp_in i n) (hdg : decode cc pc = .ok (.daload, 1))
    (k : ∀ tx : String, tx = (toString "Index " ++ toString i ++ toString " out of bounds for length " ++ toString n : String) → vx_Note p l e R s m args below meth c H locs cells slots Q (F0 m pc ls rest) "java/lang/ArrayIndexOutOfBoundsException" tx) : W p l e R s m args below meth c H locs cells slots Q (F0 m pc ls (.int i :: .ref a :: rest)) := by
  intro T hT X
  obtain ⟨t, st, q⟩ := k _ rfl T hT X
  refine ⟨t, ?_, q⟩
  have h1 := X.daloadOut hexec (by rw [hT]; exact hP q0 _ ha) ((hK.2 t0 _ ht).1 n (fun j => .double (f j))) (j := i) (by show (i < 0 ∨ (arrV _ _ _).slots.size ≤ _); rw [arrV_size]; exact Classical.byContradiction hout) (g := F0 m pc ls (.int i :: .ref a :: rest)) rfl (rest := rest) rfl (by rw [hb]; exact hdg) t
  simp only [arrV_size] at h1
  exact h1 st
theorem vx_dastZ {D : va_G} {cl : List vw_C} {ws : va_W} {tys : List (ClassId × FieldType)} {a : Nat} (hexec : p.tables.exec = Jvm.exec) (hb : c.code = cc) (hK : va_K D cl tys s) (hP : va_P D cl ws H) (q0 t0 : Nat) {cA : ClassId} {n : Nat} {f : Nat → UInt64} (ha : ws[q0]? = some (a, .inl (cA, n, .inr (.inr (.inr (.inl f)))))) (ht : tys[t0]? = some (cA, .double)) {i : Int32} {x : UInt64} (hout : ¬ vp_in i n) (hdg : decode cc pc = .ok (.dastore, 1))
    (k : ∀ tx : String, tx = (toString "Index " ++ toString i ++ toString " out of bounds for length " ++ toString n : String) → vx_Note p l e R s m args below meth c H locs cells slots Q (F0 m pc ls rest) "java/lang/ArrayIndexOutOfBoundsException" tx) : W p l e R s m args below meth c H locs cells slots Q (F0 m pc ls (.double x :: .int i :: .ref a :: rest)) := by
  intro T hT X
  obtain ⟨t, st, q⟩ := k _ rfl T hT X
  refine ⟨t, ?_, q⟩
  have h1 := X.dastoreOut hexec (by rw [hT]; exact hP q0 _ ha) ((hK.2 t0 _ ht).1 n (fun j => .double (f j))) (j := i) (by show (i < 0 ∨ (arrV _ _ _).slots.size ≤ _); rw [arrV_size]; exact Classical.byContradiction hout) (g := F0 m pc ls (.double x :: .int i :: .ref a :: rest)) rfl (rest := rest) rfl (by rw [hb]; exact hdg) t
  simp only [arrV_size] at h1
  exact h1 st
theorem vx_arraylengthN (hexec : p.tables.exec = Jvm.exec) (hb : c.code = cc) (hdg : decode cc pc = .ok (.arraylength, 1)) (k : vx_NoteN p l e R s m args below meth c H locs cells slots Q (F0 m pc ls rest)) : W p l e R s m args below meth c H locs cells slots Q (F0 m pc ls (.null :: rest)) := by
  intro T hT X
  obtain ⟨t, st, q⟩ := k T hT X
  exact ⟨t, X.arraylengthNull hexec (g := F0 m pc ls (.null :: rest)) rfl (rest := rest) rfl (by rw [hb]; exact hdg) t st, q⟩
theorem vx_ialoadN (hexec : p.tables.exec = Jvm.exec) (hb : c.code = cc) {i : Int32} (hdg : decode cc pc = .ok (.iaload, 1)) (k : vx_NoteN p l e R s m args below meth c H locs cells slots Q (F0 m pc ls rest)) : W p l e R s m args below meth c H locs cells slots Q (F0 m pc ls (.int i :: .null :: rest)) := by
  intro T hT X
  obtain ⟨t, st, q⟩ := k T hT X
  exact ⟨t, X.ialoadNull hexec (g := F0 m pc ls (.int i :: .null :: rest)) rfl (rest := rest) rfl (by rw [hb]; exact hdg) t st, q⟩
theorem vx_laloadN (hexec : p.tables.exec = Jvm.exec) (hb : c.code = cc) {i : Int32} (hdg : decode cc pc = .ok (.laload, 1)) (k : vx_NoteN p l e R s m args below meth c H locs cells slots Q (F0 m pc ls rest)) : W p l e R s m args below meth c H locs cells slots Q (F0 m pc ls (.int i :: .null :: rest)) := by
  intro T hT X
  obtain ⟨t, st, q⟩ := k T hT X
  exact ⟨t, X.laloadNull hexec (g := F0 m pc ls (.int i :: .null :: rest)) rfl (rest := rest) rfl (by rw [hb]; exact hdg) t st, q⟩
theorem vx_faloadN (hexec : p.tables.exec = Jvm.exec) (hb : c.code = cc) {i : Int32} (hdg : decode cc pc = .ok (.faload, 1)) (k : vx_NoteN p l e R s m args below meth c H locs cells slots Q (F0 m pc ls rest)) : W p l e R s m args below meth c H locs cells slots Q (F0 m pc ls (.int i :: .null :: rest)) := by
  intro T hT X
  obtain ⟨t, st, q⟩ := k T hT X
  exact ⟨t, X.faloadNull hexec (g := F0 m pc ls (.int i :: .null :: rest)) rfl (rest := rest) rfl (by rw [hb]; exact hdg) t st, q⟩
theorem vx_daloadN (hexec : p.tables.exec = Jvm.exec) (hb : c.code = cc) {i : Int32} (hdg : decode cc pc = .ok (.daload, 1)) (k : vx_NoteN p l e R s m args below meth c H locs cells slots Q (F0 m pc ls rest)) : W p l e R s m args below meth c H locs cells slots Q (F0 m pc ls (.int i :: .null :: rest)) := by
  intro T hT X
  obtain ⟨t, st, q⟩ := k T hT X
  exact ⟨t, X.daloadNull hexec (g := F0 m pc ls (.int i :: .null :: rest)) rfl (rest := rest) rfl (by rw [hb]; exact hdg) t st, q⟩
theorem vx_aaloadN (hexec : p.tables.exec = Jvm.exec) (hb : c.code = cc) {i : Int32} (hdg : decode cc pc = .ok (.aaload, 1)) (k : vx_NoteN p l e R s m args below meth c H locs cells slots Q (F0 m pc ls rest)) : W p l e R s m args below meth c H locs cells slots Q (F0 m pc ls (.int i :: .null :: rest)) := by
  intro T hT X
  obtain ⟨t, st, q⟩ := k T hT X
  exact ⟨t, X.aaloadNull hexec (g := F0 m pc ls (.int i :: .null :: rest)) rfl (rest := rest) rfl (by rw [hb]; exact hdg) t st, q⟩
theorem vx_baloadN (hexec : p.tables.exec = Jvm.exec) (hb : c.code = cc) {i : Int32} (hdg : decode cc pc = .ok (.baload, 1)) (k : vx_NoteN p l e R s m args below meth c H locs cells slots Q (F0 m pc ls rest)) : W p l e R s m args below meth c H locs cells slots Q (F0 m pc ls (.int i :: .null :: rest)) := by
  intro T hT X
  obtain ⟨t, st, q⟩ := k T hT X
  exact ⟨t, X.baloadNull hexec (g := F0 m pc ls (.int i :: .null :: rest)) rfl (rest := rest) rfl (by rw [hb]; exact hdg) t st, q⟩
theorem vx_caloadN (hexec : p.tables.exec = Jvm.exec) (hb : c.code = cc) {i : Int32} (hdg : decode cc pc = .ok (.caload, 1)) (k : vx_NoteN p l e R s m args below meth c H locs cells slots Q (F0 m pc ls rest)) : W p l e R s m args below meth c H locs cells slots Q (F0 m pc ls (.int i :: .null :: rest)) := by
  intro T hT X
  obtain ⟨t, st, q⟩ := k T hT X
  exact ⟨t, X.caloadNull hexec (g := F0 m pc ls (.int i :: .null :: rest)) rfl (rest := rest) rfl (by rw [hb]; exact hdg) t st, q⟩
theorem vx_saloadN (hexec : p.tables.exec = Jvm.exec) (hb : c.code = cc) {i : Int32} (hdg : decode cc pc = .ok (.saload, 1)) (k : vx_NoteN p l e R s m args below meth c H locs cells slots Q (F0 m pc ls rest)) : W p l e R s m args below meth c H locs cells slots Q (F0 m pc ls (.int i :: .null :: rest)) := by
  intro T hT X
  obtain ⟨t, st, q⟩ := k T hT X
  exact ⟨t, X.saloadNull hexec (g := F0 m pc ls (.int i :: .null :: rest)) rfl (rest := rest) rfl (by rw [hb]; exact hdg) t st, q⟩
theorem vx_iastoreN (hexec : p.tables.exec = Jvm.exec) (hb : c.code = cc) {x : Int32} {i : Int32} (hdg : decode cc pc = .ok (.iastore, 1)) (k : vx_NoteN p l e R s m args below meth c H locs cells slots Q (F0 m pc ls rest)) : W p l e R s m args below meth c H locs cells slots Q (F0 m pc ls (.int x :: .int i :: .null :: rest)) := by
  intro T hT X
  obtain ⟨t, st, q⟩ := k T hT X
  exact ⟨t, X.iastoreNull hexec (g := F0 m pc ls (.int x :: .int i :: .null :: rest)) rfl (rest := rest) rfl (by rw [hb]; exact hdg) t st, q⟩
theorem vx_lastoreN (hexec : p.tables.exec = Jvm.exec) (hb : c.code = cc) {x : Int64} {i : Int32} (hdg : decode cc pc = .ok (.lastore, 1)) (k : vx_NoteN p l e R s m args below meth c H locs cells slots Q (F0 m pc ls rest)) : W p l e R s m args below meth c H locs cells slots Q (F0 m pc ls (.long x :: .int i :: .null :: rest)) := by
  intro T hT X
  obtain ⟨t, st, q⟩ := k T hT X
  exact ⟨t, X.lastoreNull hexec (g := F0 m pc ls (.long x :: .int i :: .null :: rest)) rfl (rest := rest) rfl (by rw [hb]; exact hdg) t st, q⟩
theorem vx_fastoreN (hexec : p.tables.exec = Jvm.exec) (hb : c.code = cc) {x : UInt32} {i : Int32} (hdg : decode cc pc = .ok (.fastore, 1)) (k : vx_NoteN p l e R s m args below meth c H locs cells slots Q (F0 m pc ls rest)) : W p l e R s m args below meth c H locs cells slots Q (F0 m pc ls (.float x :: .int i :: .null :: rest)) := by
  intro T hT X
  obtain ⟨t, st, q⟩ := k T hT X
  exact ⟨t, X.fastoreNull hexec (g := F0 m pc ls (.float x :: .int i :: .null :: rest)) rfl (rest := rest) rfl (by rw [hb]; exact hdg) t st, q⟩
theorem vx_dastoreN (hexec : p.tables.exec = Jvm.exec) (hb : c.code = cc) {x : UInt64} {i : Int32} (hdg : decode cc pc = .ok (.dastore, 1)) (k : vx_NoteN p l e R s m args below meth c H locs cells slots Q (F0 m pc ls rest)) : W p l e R s m args below meth c H locs cells slots Q (F0 m pc ls (.double x :: .int i :: .null :: rest)) := by
  intro T hT X
  obtain ⟨t, st, q⟩ := k T hT X
  exact ⟨t, X.dastoreNull hexec (g := F0 m pc ls (.double x :: .int i :: .null :: rest)) rfl (rest := rest) rfl (by rw [hb]; exact hdg) t st, q⟩
theorem vx_bastoreN (hexec : p.tables.exec = Jvm.exec) (hb : c.code = cc) {x : Int32} {i : Int32} (hdg : decode cc pc = .ok (.bastore, 1)) (k : vx_NoteN p l e R s m args below meth c H locs cells slots Q (F0 m pc ls rest)) : W p l e R s m args below meth c H locs cells slots Q (F0 m pc ls (.int x :: .int i :: .null :: rest)) := by
  intro T hT X
  obtain ⟨t, st, q⟩ := k T hT X
  exact ⟨t, X.bastoreNull hexec (g := F0 m pc ls (.int x :: .int i :: .null :: rest)) rfl (rest := rest) rfl (by rw [hb]; exact hdg) t st, q⟩
theorem vx_castoreN (hexec : p.tables.exec = Jvm.exec) (hb : c.code = cc) {x : Int32} {i : Int32} (hdg : decode cc pc = .ok (.castore, 1)) (k : vx_NoteN p l e R s m args below meth c H locs cells slots Q (F0 m pc ls rest)) : W p l e R s m args below meth c H locs cells slots Q (F0 m pc ls (.int x :: .int i :: .null :: rest)) := by
  intro T hT X
  obtain ⟨t, st, q⟩ := k T hT X
  exact ⟨t, X.castoreNull hexec (g := F0 m pc ls (.int x :: .int i :: .null :: rest)) rfl (rest := rest) rfl (by rw [hb]; exact hdg) t st, q⟩
theorem vx_sastoreN (hexec : p.tables.exec = Jvm.exec) (hb : c.code = cc) {x : Int32} {i : Int32} (hdg : decode cc pc = .ok (.sastore, 1)) (k : vx_NoteN p l e R s m args below meth c H locs cells slots Q (F0 m pc ls rest)) : W p l e R s m args below meth c H locs cells slots Q (F0 m pc ls (.int x :: .int i :: .null :: rest)) := by
  intro T hT X
  obtain ⟨t, st, q⟩ := k T hT X
  exact ⟨t, X.sastoreNull hexec (g := F0 m pc ls (.int x :: .int i :: .null :: rest)) rfl (rest := rest) rfl (by rw [hb]; exact hdg) t st, q⟩
theorem vx_invokeN {own C : String} {index maxL : Nat} {y : MethodName} {bytes : ByteArray} {ret : Option FieldType} (hexec : p.tables.exec = Jvm.exec) (hb : c.code = cc) (hown : s.vm.findClass own = some m.cls) (hlink : (Cond.methodLink own index y).before args s = true) (hinst : (Cond.instanceMethod y).before args s = true) (hcode : (Cond.code y bytes maxL ret).before args s = true) (hsel : (Cond.selects C y y).before args s = true)
    (hx : y.cls ≠ "java/lang/invoke/MethodHandle" ∧ y.cls ≠ "java/lang/invoke/VarHandle") {As : List Value} (hlen : (parseMethodDescriptor y.desc).map (fun d => d.parameters.length) = some As.length) (hdg : decode cc pc = .ok (.invokevirtual index, 3))
    (k : vx_NoteN p l e R s m args below meth c H locs cells slots Q (F0 m pc ls rest)) {st0 : List Value} (hst : st0 = As.reverse ++ .null :: rest) : W p l e R s m args below meth c H locs cells slots Q (F0 m pc ls st0) := by
  intro T hT X
  obtain ⟨r0, r, hn, hrm, hstR, hsigR⟩ := va_Decl.of hinst hcode
  obtain ⟨c2, r2, m2, q1, q2, q3, q4, kP, hkP, hkPi⟩ := Cond.selects_spec hsel
  cases hn.symm.trans q3
  have hl9 : As.length = r.sig.parameters.length := by
    rw [hsigR] at hlen
    exact (Option.some.inj hlen).symm
  obtain ⟨vm', X1, st1⟩ := X.invokevirtualNull hexec hown hlink hn hrm hstR hkP hkPi hx (g := F0 m pc ls st0) rfl (argsL := As) (rest := rest) hl9 hst (by rw [hb]; exact hdg)
  obtain ⟨t, st, q⟩ := k (T.setVm vm') hT X1
  exact ⟨t, st1 t st, q⟩
theorem vx_newarrayZ {atype : ArrayType} (hexec : p.tables.exec = Jvm.exec) (hb : c.code = cc) {n : Int32} (h0 : n < 0) (hdg : decode cc pc = .ok (.newarray atype, 2)) (k : ∀ tx : String, tx = toString n → vx_Note p l e R s m args below meth c H locs cells slots Q (F0 m pc ls rest) "java/lang/NegativeArraySizeException" tx) : W p l e R s m args below meth c H locs cells slots Q (F0 m pc ls (.int n :: rest)) := by
  intro T hT X
  obtain ⟨t, st, q⟩ := k _ rfl T hT X
  exact ⟨t, X.newarrayNegative hexec (g := F0 m pc ls (.int n :: rest)) rfl h0 (rest := rest) rfl (by rw [hb]; exact hdg) t st, q⟩
end
end VXM
/-! ===== END ===== -/
end
section
/-- the words that callees can take over -/
def lw_gd : List Cond := lw_tbl.filter goodWord
/-! the world as a memory: cell k holds the ints (w k 0), (w k 1) ..; all references are fixed once made -/
abbrev qMem : Type := Nat → Nat → Int32
def qur (w : qMem) (c : Nat) (g : Nat → Int32) : qMem := fun c' => if c' = c then g else w c'
def quw (w : qMem) (c k : Nat) (v : Int32) : qMem := qur w c (upd (w c) k v)
/-- what cell k holds: halls 0..11 (19 cells each), then the class's own cells, then the reference's -/
def qshp (G : Nat → ClassId) (ad : Nat → Nat) (f : Nat → Int32) (k : Nat) : va_E :=
  if k < 228 then
    (if k % 19 = 0 then .inr (3, [.ref (ad (k + 1)), .ref (ad (k + 14)), .int (f 2), .ref (ad (k + 15)), .int (f 4), .int (f 5), .int (f 6), .int (f 7), .int (f 8), .int (f 9), .ref (ad (k + 16)), .ref (ad (k + 17)), .ref (ad (k + 18))])
     else if k % 19 = 1 then .inl (G 3, 12, .inr (.inr (.inr (.inr (fun j => some (ad (k + 1 + j)))))))
     else if k % 19 ≤ 14 then .inr (6, [.int (f 0), .int (f 1), .int (f 2), .int (f 3), .int (f 4), .int (f 5), .int (f 6)])
     else if k % 19 = 15 then .inl (G 0, 8, .inl f)
     else if k % 19 = 17 then .inl (G 0, 5, .inl f)
     else .inl (G 1, 5, .inl f))
  else match k - 228 with
    | 0 => .inr (8, [.ref (ad 0), .ref (ad 19), .ref (ad 38), .ref (ad 229), .ref (ad 231), .ref (ad 236), .int (f 6), .int (f 7), .int (f 8), .int (f 9), .int (f 10)])
    | 1 => .inr (4, [.ref (ad 230), .int (f 1), .int (f 2)])
    | 2 => .inl (G 4, 9, .inr (.inr (.inr (.inr (fun j => some (ad (19 * (3 + j))))))))
    | 3 => .inr (7, [.ref (ad 232), .int (f 1), .ref (ad 233), .ref (ad 234), .ref (ad 235), .int (f 5), .int (f 6)])
    | 4 => .inl (G 2, 60, .inl f)
    | 5 => .inl (G 0, 12, .inl f)
    | 6 => .inl (G 0, 12, .inl f)
    | 7 => .inl (G 0, 12, .inl f)
    | 8 => .inr (5, [.ref (ad 237), .int (f 1)])
    | 9 => .inl (G 2, 16, .inl f)
    | 10 => .inr (9, [.ref (ad 239), .ref (ad 240), .ref (ad 241), .ref (ad 242), .int (f 4), .ref (ad 243), .int (f 6), .int (f 7), .int (f 8), .int (f 9), .int (f 10), .int (f 11), .ref (ad 244), .int (f 13), .ref (ad 245), .int (f 15), .int (f 16), .int (f 17), .int (f 18), .ref (ad 246), .int (f 20)])
    | 11 => .inl (G 0, 99, .inl f)
    | 12 => .inl (G 0, 99, .inl f)
    | 13 => .inl (G 0, 99, .inl f)
    | 14 => .inl (G 0, 99, .inl f)
    | 15 => .inl (G 0, 792, .inl f)
    | 16 => .inl (G 2, 40, .inl f)
    | 17 => .inl (G 2, 60, .inl f)
    | _ => .inl (G 0, 180, .inl f)
def qcells (G : Nat → ClassId) (ad : Nat → Nat) (w : qMem) : va_W := (List.range 247).map (fun k => (ad k, qshp G ad (w k) k))
def qtys (G : Nat → ClassId) : List (ClassId × FieldType) := [(G 0, .int), (G 1, .boolean), (G 2, .char), (G 3, .object RX3), (G 4, .object RX0)]
def qInj (ad : Nat → Nat) : Prop := ∀ i j, i < 247 → j < 247 → ad i = ad j → i = j
def qAdr (ad : Nat → Nat) (sz : Nat) : Nat → Prop := fun q => (∃ k, k < 247 ∧ q = ad k) ∨ sz ≤ q
def qisP (c : Nat) : Prop := c < 228 ∧ 2 ≤ c % 19 ∧ c % 19 ≤ 14
theorem qat (G : Nat → ClassId) (ad : Nat → Nat) (w : qMem) {c : Nat} (h : c < 247) : (qcells G ad w)[c]? = some (ad c, qshp G ad (w c) c) := by
  simp [qcells, List.getElem?_map, List.getElem?_range h]
theorem qset (G : Nat → ClassId) (ad : Nat → Nat) (w : qMem) {c : Nat} (h : c < 247) (g : Nat → Int32) (X : va_E) (hX : X = qshp G ad g c) : (qcells G ad w).set c (ad c, X) = qcells G ad (qur w c g) := by
  subst hX
  apply List.ext_getElem?
  intro i
  by_cases hi : i < 247
  · rw [qat G ad _ hi]
    by_cases e : i = c
    · subst e
      rw [List.getElem?_set_self (by simp [qcells]; exact hi)]
      simp [qur]
    · rw [List.getElem?_set_ne (fun x => e x.symm), qat G ad w hi]
      simp [qur, e]
  · rw [List.getElem?_eq_none (by simp [qcells]; omega), List.getElem?_eq_none (by simp [qcells]; omega)]
theorem qD (G : Nat → ClassId) {ad : Nat → Nat} (w : qMem) (hJ : qInj ad) (sz : Nat) : va_D (qAdr ad sz) (qcells G ad w) := by
  refine ⟨fun i j p q hi hj hpq => ?_, fun k q hk => ?_⟩
  · have li : i < 247 := by have := (List.getElem?_eq_some_iff.mp hi).1; simpa [qcells] using this
    have lj : j < 247 := by have := (List.getElem?_eq_some_iff.mp hj).1; simpa [qcells] using this
    rw [qat G ad w li] at hi
    rw [qat G ad w lj] at hj
    cases hi; cases hj
    exact hJ i j li lj hpq
  · have lk : k < 247 := by have := (List.getElem?_eq_some_iff.mp hk).1; simpa [qcells] using this
    rw [qat G ad w lk] at hk
    cases hk
    exact Or.inl ⟨k, lk, rfl⟩
theorem qAdr_mono {ad : Nat → Nat} {a b : Nat} (h : a ≤ b) : ∀ q, qAdr ad b q → qAdr ad a q := fun q hq => hq.elim Or.inl (fun x => Or.inr (Nat.le_trans h x))
-- the shapes
theorem qsh_hall (G : Nat → ClassId) (ad : Nat → Nat) (f : Nat → Int32) {h : Nat} (hh : h < 12) : qshp G ad f (19 * h) = .inr (3, [.ref (ad (19 * h + 1)), .ref (ad (19 * h + 14)), .int (f 2), .ref (ad (19 * h + 15)), .int (f 4), .int (f 5), .int (f 6), .int (f 7), .int (f 8), .int (f 9), .ref (ad (19 * h + 16)), .ref (ad (19 * h + 17)), .ref (ad (19 * h + 18))]) := by
  unfold qshp; rw [if_pos (by omega), if_pos (by omega)]
theorem qsh_props (G : Nat → ClassId) (ad : Nat → Nat) (f : Nat → Int32) {h : Nat} (hh : h < 12) : qshp G ad f (19 * h + 1) = .inl (G 3, 12, .inr (.inr (.inr (.inr (fun j => some (ad (19 * h + 2 + j))))))) := by
  unfold qshp; rw [if_pos (by omega), if_neg (by omega), if_pos (by omega)]
theorem qsh_planned (G : Nat → ClassId) (ad : Nat → Nat) (f : Nat → Int32) {h : Nat} (hh : h < 12) : qshp G ad f (19 * h + 15) = .inl (G 0, 8, .inl f) := by
  unfold qshp; rw [if_pos (by omega), if_neg (by omega), if_neg (by omega), if_neg (by omega), if_pos (by omega)]
theorem qsh_hasCat (G : Nat → ClassId) (ad : Nat → Nat) (f : Nat → Int32) {h : Nat} (hh : h < 12) : qshp G ad f (19 * h + 16) = .inl (G 1, 5, .inl f) := by
  unfold qshp; rw [if_pos (by omega), if_neg (by omega), if_neg (by omega), if_neg (by omega), if_neg (by omega), if_neg (by omega)]
theorem qsh_reach (G : Nat → ClassId) (ad : Nat → Nat) (f : Nat → Int32) {h : Nat} (hh : h < 12) : qshp G ad f (19 * h + 17) = .inl (G 0, 5, .inl f) := by
  unfold qshp; rw [if_pos (by omega), if_neg (by omega), if_neg (by omega), if_neg (by omega), if_neg (by omega), if_pos (by omega)]
theorem qsh_hasBr (G : Nat → ClassId) (ad : Nat → Nat) (f : Nat → Int32) {h : Nat} (hh : h < 12) : qshp G ad f (19 * h + 18) = .inl (G 1, 5, .inl f) := by
  unfold qshp; rw [if_pos (by omega), if_neg (by omega), if_neg (by omega), if_neg (by omega), if_neg (by omega), if_neg (by omega)]
theorem qsh_prop (G : Nat → ClassId) (ad : Nat → Nat) (f : Nat → Int32) {c : Nat} (hc : qisP c) : qshp G ad f c = .inr (6, [.int (f 0), .int (f 1), .int (f 2), .int (f 3), .int (f 4), .int (f 5), .int (f 6)]) := by
  obtain ⟨h1, h2, h3⟩ := hc
  unfold qshp; rw [if_pos h1, if_neg (by omega), if_neg (by omega), if_pos h3]
theorem qisP_lt {c : Nat} (hc : qisP c) : c < 247 := by have := hc.1; omega
theorem qisP_of {h : Nat} (hh : h < 12) {j : Nat} (hj : j < 13) : qisP (19 * h + 2 + j) := ⟨by omega, by omega, by omega⟩
theorem qisP_no {h : Nat} (hh : h < 12) : qisP (19 * h + 14) := ⟨by omega, by omega, by omega⟩
theorem qisP_in {h : Nat} (hh : h < 12) {i : Int32} (hi : vp_in i 12) : qisP (19 * h + 2 + i.toNatClampNeg) := by
  have : i.toNatClampNeg < 12 := Nat.not_le.mp fun q => hi (Or.inr q)
  exact ⟨by omega, by omega, by omega⟩
theorem qhall_in {i : Int32} (hi : vp_in i 9) : 3 + i.toNatClampNeg < 12 := by
  have : i.toNatClampNeg < 9 := Nat.not_le.mp fun q => hi (Or.inr q)
  omega
-- what stands of the constant texts, of Throwable's two statics, of the nest: kept by every step
/-- the texts whose letters matter, by their places -/
def qtx : List (List Int32) := [[99, 117, 112], [108, 97, 109, 112], [99, 97, 116], [116, 97, 107, 101], [99, 117, 101], [115, 101, 116], [115, 104, 111, 99, 107], [97, 100, 100], [112, 101, 114, 102, 111, 114, 109], [113, 117, 105, 101, 116], [99, 108, 107], [], [32], [99, 117, 112, 32, 108, 97, 109, 112, 32, 99, 97, 116, 32, 116, 97, 107, 101, 32, 99, 117, 101, 32, 115, 101, 116, 32, 115, 104, 111, 99, 107, 32, 97, 100, 100, 32, 112, 101, 114, 102, 111, 114, 109, 32, 113, 117, 105, 101, 116, 32]]
def qstr : List (String × Nat × String × Nat) := [("QuakeRehearsal", 305, "no such floor or measure", 14), ("QuakeRehearsal", 307, "the hall or the floor is full", 15), ("QuakeRehearsal", 69, "no such prop", 16), ("QuakeRehearsal", 76, "the strength is not from 0 to 9", 17), ("QuakeRehearsal", 81, "the cue is refused", 18), ("QuakeRehearsal", 300, "the strength is not from 1 to 9", 19), ("QuakeRehearsal", 309, "the strength is refused", 20), ("QuakeRehearsal", 88, "the programme is empty", 21), ("QuakeRehearsal", 117, "what is not from 0 to 6", 22), ("QuakeRehearsal", 124, "no such place in the programme", 23), ("QuakeRehearsal", 138, "no such strength or floor", 24), ("QuakeRehearsal", 170, "no shock would break something", 25), ("QuakeRehearsal", 303, "no such place in the order", 26), ("QuakeRehearsal", 184, "no such kind or floor", 27), ("QuakeRehearsal", 199, "no such character in the line", 28), ("QuakeRehearsal", 208, "the input contains 60 characters", 29), ("QuakeRehearsal$Script", 74, "cup", 0), ("QuakeRehearsal$Script", 76, "lamp", 1), ("QuakeRehearsal$Script", 78, "cat", 2), ("QuakeRehearsal$Script", 80, "take", 3), ("QuakeRehearsal$Script", 82, "cue", 4), ("QuakeRehearsal$Script", 84, "set", 5), ("QuakeRehearsal$Script", 86, "shock", 6), ("QuakeRehearsal$Script", 88, "add", 7), ("QuakeRehearsal$Script", 90, "perform", 8), ("QuakeRehearsal$Script", 92, "quiet", 9), ("QuakeRehearsal", 218, "the text has an error", 30), ("QuakeRehearsal", 244, "an order is refused", 31), ("QuakeRehearsal", 246, "an order cannot be carried out", 32), ("QuakeRehearsal", 248, "nothing was refused", 33), ("QuakeRehearsal", 271, "what is not from 0 to 12", 34), ("QuakeRehearsal", 285, "there are no cups", 35), ("QuakeRehearsal", 291, "there are no props", 36), ("QuakeRehearsal", 293, "no change can be undone", 37), ("QuakeRehearsal", 298, "there is no snapshot", 38), ("QuakeRehearsalModel", 180, "clk", 10), ("QuakeRehearsalModel", 210, "", 11), ("QuakeRehearsalModel", 212, "cup lamp cat take cue set shock add perform quiet ", 13), ("java/lang/StringLatin1", 151, "", 11), ("java/util/Arrays", 337, " > ", 39), ("java/lang/StringUTF16", 295, "", 11), ("QuakeRehearsalModel", 238, " ", 12)]
def qStr (ad : Nat → Nat) (A : Nat → Prop) (U : State) (H : Heap) : Prop := ∀ i : Nat, i < 14 → va_O "java/lang/String" (ad (1000 + i)) A U H ∧ va_OF "java/lang/String" "coder" "B" (.int 0) (ad (1000 + i)) A U H ∧ va_OF "java/lang/String" "value" "[B" (.ref (ad (2000 + i))) (ad (1000 + i)) A U H ∧ va_T .byte (ad (2000 + i)) (qtx.getD i []).length (fun j => .int ((qtx.getD i []).getD j 0)) A U H
def qX (ad : Nat → Nat) (A : Nat → Prop) (U : State) (H : Heap) : Prop :=
  qStr ad A U H ∧ (∀ r ∈ qstr, vk_R r.1 r.2.1 r.2.2.1 (ad (1000 + r.2.2.2)) U) ∧ vx_Zq Bundle.tN "UNASSIGNED_STACK" Bundle.steD A U H ∧ vx_Zq Bundle.tN "SUPPRESSED_SENTINEL" Bundle.listD A U H ∧ va_Nw (.methodLinkNest RX0 98 yX5_isFloor RX5) U
theorem qX_go {ad : Nat → Nat} {A B : Nat → Prop} {s U : State} {H H1 : Heap} (h : qX ad A s H) (hW : s.WarmedH U.vm) (hq : ∀ a : Nat, a < H.size → ¬ A a → H1[a]? = H[a]?) (hAB : ∀ q, B q → A q) : qX ad B U H1 := by
  obtain ⟨h1, h2, h3, h4, h5⟩ := h
  refine ⟨fun i hi => ?_, fun r hr => vk_R.warm hW (h2 r hr), ((h3.kept hq).narrow hAB).moved hW.alike, ((h4.kept hq).narrow hAB).moved hW.alike, va_Nw.warmM hW h5⟩
  obtain ⟨g1, g2, g3, g4⟩ := h1 i hi
  exact ⟨va_O.moved hW.alike ((g1.kept hq).narrow hAB), va_OF.moved hW.alike ((g2.kept hq).narrow hAB), va_OF.moved hW.alike ((g3.kept hq).narrow hAB), va_T.moved hW.alike ((g4.kept hq).narrow hAB)⟩
theorem qX_same {ad : Nat → Nat} {A : Nat → Prop} {u U : State} {H : Heap} (h : qX ad A u H) (hv : U.vm = u.vm) : qX ad A U H := by
  have ha : u.vm.Alike U.vm := by rw [hv]; exact Vm.Alike.refl _
  obtain ⟨h1, h2, h3, h4, h5⟩ := h
  refine ⟨fun i hi => ?_, fun r hr => vk_R.same hv (h2 r hr), h3.moved ha, h4.moved ha, va_Nw.same rfl hv.symm h5⟩
  obtain ⟨g1, g2, g3, g4⟩ := h1 i hi
  exact ⟨va_O.moved ha g1, va_OF.moved ha g2, va_OF.moved ha g3, va_T.moved ha g4⟩
-- what every walk has at hand
def qCx (p : Program) (c : Code) (cc : ByteArray) (nL : Nat) (s : State) (m : MethodId) (args : Array Value) (meth : Method) (own : String) (D : va_G) (G : Nat → ClassId) (ad : Nat → Nat) : Prop :=
  p.tables.exec = Jvm.exec ∧ c.code = cc ∧ c.maxLocals = nL ∧ s.vm.findClass own = some m.cls ∧ (∀ w ∈ lw_gd, w.before args s = true) ∧ meth.locks = false ∧ va_K D vwCl (qtys G) s ∧ qInj ad ∧ qX ad (qAdr ad s.heap.size) s s.heap
def qRp (D : va_G) (G : Nat → ClassId) (ad : Nat → Nat) (s : State) (w : qMem) (H : Heap) (locs : List Loc) : Prop := va_P D vwCl (qcells G ad w) H ∧ va_S (qAdr ad s.heap.size) s.heap H locs
-- tracking the pure function
def qnm {α β : Type} (e : α) (k : α → β) : β := k e
def qbd {α β : Type} (o : Option α) (k : α → Option β) : Option β := match o with | none => none | some x => k x
theorem qnm_t {α β : Type} {e x : α} {k : α → β} {r : β} (h : qnm e k = r) (ex : x = e) : k x = r := by subst ex; exact h
theorem qbd_s {α β : Type} {o : Option α} {k : α → Option β} {r : β} (h : qbd o k = some r) : ∃ x, o = some x ∧ k x = some r := by
  cases o with
  | none => cases h
  | some x => exact ⟨x, rfl, h⟩
theorem qbd_s2 {α γ β : Type} {o : Option (α × γ)} {k : α × γ → Option β} {r : β} (h : qbd o k = some r) : ∃ x y, o = some (x, y) ∧ k (x, y) = some r := by
  cases o with
  | none => cases h
  | some x => exact ⟨x.1, x.2, rfl, h⟩
theorem qif_t {α : Type} {c : Prop} [Decidable c] {a b r : α} (h : (if c then a else b) = r) (hc : c) : a = r := by rw [if_pos hc] at h; exact h
theorem qif_f {α : Type} {c : Prop} [Decidable c] {a b r : α} (h : (if c then a else b) = r) (hc : ¬ c) : b = r := by rw [if_neg hc] at h; exact h
theorem qgd {α : Type} {c : Prop} [Decidable c] {a : Option α} {r : α} (h : (if c then a else none) = some r) : c ∧ a = some r := by
  by_cases hc : c
  · rw [if_pos hc] at h; exact ⟨hc, h⟩
  · rw [if_neg hc] at h; cases h
theorem qgdn {α : Type} {c : Prop} [Decidable c] {a : Option α} {r : α} (h : (if c then none else a) = some r) : ¬ c ∧ a = some r := by
  by_cases hc : c
  · rw [if_pos hc] at h; cases h
  · rw [if_neg hc] at h; exact ⟨hc, h⟩
def qbd2 {α γ β : Type} (o : Option (α × γ)) (k : α → γ → Option β) : Option β := match o with | none => none | some (x, y) => k x y
theorem qbd2_s {α γ β : Type} {o : Option (α × γ)} {k : α → γ → Option β} {r : β} (h : qbd2 o k = some r) : ∃ x y, o = some (x, y) ∧ k x y = some r := by
  match o, h with
  | none, h => cases h
  | some (x, y), h => exact ⟨x, y, rfl, h⟩
theorem qso {α : Type} {a r : α} (h : some a = some r) : a = r := Option.some.inj h
theorem qso2 {α β : Type} {a r : α} {b t : β} (h : some (a, b) = some (r, t)) : a = r ∧ b = t := by cases h; exact ⟨rfl, rfl⟩
def qin (i : Int32) (n : Nat) : Bool := decide (0 ≤ i.toInt) && decide (i.toInt < n)
theorem qin_t {i : Int32} {n : Nat} (h : qin i n = true) : vp_in i n := by
  simp only [qin, Bool.and_eq_true, decide_eq_true_eq] at h
  exact vp_in_iff.mpr h
def qisPb (c : Nat) : Bool := decide (c < 228) && (decide (2 ≤ c % 19) && decide (c % 19 ≤ 14))
theorem qisPb_ok {c : Nat} (h : qisPb c = true) : qisP c := by
  simp only [qisPb, Bool.and_eq_true, decide_eq_true_eq] at h
  exact ⟨h.1, h.2.1, h.2.2⟩
theorem qne {x k : Int32} {z : Int} (h : ¬ x = k) (hz : k.toInt = z) : x.toInt ≠ z := fun e => h (Int32.toInt_inj.mp (e.trans hz.symm))
def qcpy (sp dp n : Int32) (n0 n1 : Nat) : Bool := decide (¬ sp < 0) && (decide (¬ dp < 0) && (decide (¬ n < 0) && (decide (sp.toNatClampNeg + n.toNatClampNeg ≤ n0) && decide (dp.toNatClampNeg + n.toNatClampNeg ≤ n1))))
def qisB (x : Int32) : Bool := x == 0 || x == 1
def qisC (x : Int32) : Bool := decide (0 ≤ x) && decide (x ≤ 65535)
end
section
def qrm (d mc ms : Nat) : Room := { frames := d, cells := mc, slots := ms, locals := 40 * d }
theorem q_goodIn {y : MethodName} {b : ByteArray} {n : Nat} {r : Option FieldType} (h : Cond.code y b n r ∈ lw_gd) : GoodIn lw_gd (Cond.code y b n r :: lw_gd) := fun w hw => by
  rcases List.mem_cons.mp hw with rfl | hw
  · exact ⟨h, good_of_word (List.mem_filter.mp h).2⟩
  · exact ⟨hw, good_of_word (List.mem_filter.mp hw).2⟩
theorem qisB_ok {x : Int32} (h : qisB x = true) : narrow .boolean (.int x) = .int x ∧ fits .boolean (.int x) = true := by
  simp only [qisB, Bool.or_eq_true, beq_iff_eq] at h
  rcases h with rfl | rfl <;> decide
theorem qisC_ok {x : Int32} (h : qisC x = true) : narrow .char (.int x) = .int x ∧ fits .char (.int x) = true := by
  simp only [qisC, Bool.and_eq_true, decide_eq_true_eq] at h
  obtain ⟨h1, h2⟩ := h
  have h0 : ¬ x < 0 := fun q => by
    have a := Int32.le_iff_toInt_le.mp h1
    have b := Int32.lt_iff_toInt_lt.mp q
    omega
  obtain ⟨j, hj, rfl⟩ := nI_of2 (M := 65535) (n := 65535) (by decide) h0 h2
  exact pk_charN (by omega)
theorem qisC_nar {x : Int32} (h : qisC x = true) : vp_nar .char x = x := by
  have := (qisC_ok h).1
  simp only [vp_nar, this]
abbrev qQI (D : va_G) (G : Nat → ClassId) (ad : Nat → Nat) (s : State) (w1 : qMem) (r : Int32) : Array Value → State → Outcome → State → Prop := va_Qi (S := Unit) (fun r1 _ => r1 = r) (fun _ t => va_P D vwCl (qcells G ad w1) t.heap) (qAdr ad s.heap.size)
abbrev qQV (D : va_G) (G : Nat → ClassId) (ad : Nat → Nat) (s : State) (w1 : qMem) : Array Value → State → Outcome → State → Prop := va_Qv (S := Unit) (fun _ => True) (fun _ t => va_P D vwCl (qcells G ad w1) t.heap) (qAdr ad s.heap.size)
abbrev qQR (D : va_G) (G : Nat → ClassId) (ad : Nat → Nat) (s : State) (w1 : qMem) (x : Nat) : Array Value → State → Outcome → State → Prop := va_Qr (S := Unit) (fun _ => True) (fun _ a t => a = ad x ∧ va_P D vwCl (qcells G ad w1) t.heap) (qAdr ad s.heap.size)
def qpre (D : va_G) (G : Nat → ClassId) (ad : Nat → Nat) (w : qMem) (sz : Nat) (U : State) : Prop := U.heap.size = sz ∧ va_P D vwCl (qcells G ad w) U.heap ∧ va_K D vwCl (qtys G) U ∧ qX ad (qAdr ad sz) U U.heap
def qCM (l : Launch) (D : va_G) (G : Nat → ClassId) (ad : Nat → Nat) (y : MethodName) (cc : ByteArray) (maxL : Nat) (ret : Option FieldType) (d mc ms : Nat) (av : List Value) (w : qMem) (Qc : State → Array Value → State → Outcome → State → Prop) : Prop :=
  ∀ st : State, Met l y (Cond.code y cc maxL ret :: lw_gd) (qrm d mc ms) (va_Pc av (qpre D G ad w st.heap.size)) (Qc st) mc ms (qAdr ad st.heap.size)
abbrev qCMi (l : Launch) (D : va_G) (G : Nat → ClassId) (ad : Nat → Nat) (y : MethodName) (cc : ByteArray) (maxL : Nat) (ret : Option FieldType) (d mc ms : Nat) (av : List Value) (w : qMem) (r : Int32) (w1 : qMem) : Prop := qCM l D G ad y cc maxL ret d mc ms av w (fun st => qQI D G ad st w1 r)
abbrev qCMv (l : Launch) (D : va_G) (G : Nat → ClassId) (ad : Nat → Nat) (y : MethodName) (cc : ByteArray) (maxL : Nat) (ret : Option FieldType) (d mc ms : Nat) (av : List Value) (w : qMem) (w1 : qMem) : Prop := qCM l D G ad y cc maxL ret d mc ms av w (fun st => qQV D G ad st w1)
abbrev qCMr (l : Launch) (D : va_G) (G : Nat → ClassId) (ad : Nat → Nat) (y : MethodName) (cc : ByteArray) (maxL : Nat) (ret : Option FieldType) (d mc ms : Nat) (av : List Value) (w : qMem) (x : Nat) (w1 : qMem) : Prop := qCM l D G ad y cc maxL ret d mc ms av w (fun st => qQR D G ad st w1 x)
theorem qpre_blind {D : va_G} {G : Nat → ClassId} {ad : Nat → Nat} {w : qMem} {sz : Nat} {av : List Value} : FrameBlind (va_Pc av (qpre D G ad w sz)) := by
  intro a U g mk h
  obtain ⟨h1, h2, h3, h4, h5⟩ := h
  exact ⟨h1, h2, h3, va_K.moved (u := U) (U := U.calling g mk a) (Vm.Alike.refl U.vm) h4, qX_same (u := U) (U := U.calling g mk a) h5 rfl⟩
section
variable {p : Program} {l : Launch} {e : Env} {R : Room} {s : State} {m : MethodId} {args : Array Value} {below : List Frame} {meth : Method} {c : Code} {H : Heap} {locs : List Loc} {cells slots : Nat} {Q : State → Prop} {pc nL : Nat} {ls : Array Slot} {rest : List Value} {cc : ByteArray} {own : String} {D : va_G} {G : Nat → ClassId} {ad : Nat → Nat} {w : qMem}
theorem q_get (hC : qCx p c cc nL s m args meth own D G ad) (hR : qRp D G ad s w H locs) {x ci N index : Nat} (k : Nat) {C : String} {T : u_T} {fs : List Value} {v : Value} (hx : x < 247) (hs : qshp G ad (w x) x = .inr (ci, fs)) (hc : vwCl[ci]? = some (C, T, N)) (hin : ∀ q ∈ u_ws C T N, q ∈ lw_gd) (hk : k < N) (hlink : Cond.fieldLink own index (T k).1 (T k).2.1 (T k).2.2.1 ∈ lw_gd) (hv : fs[k]? = some v) (hdg : decode cc pc = .ok (.getfield index, 3))
    (kk : W p l e R s m args below meth c H locs cells slots Q (F0 m (pc + 3) ls (v :: rest))) : W p l e R s m args below meth c H locs cells slots Q (F0 m pc ls (.ref (ad x) :: rest)) := by
  obtain ⟨hx1, hb, hml, hown, hts, hlo, hK, hJ, hX⟩ := hC
  exact va_get hx1 hb hts hin hown hK hR.1 x (by rw [qat G ad w hx, hs]) hc k hk (hts _ hlink) (fun _ h => h) hv hdg kk
theorem q_put (hC : qCx p c cc nL s m args meth own D G ad) (hR : qRp D G ad s w H locs) {x ci N index : Nat} (k : Nat) {C : String} {T : u_T} {fs : (Nat → Int32) → List Value} {v : Int32} {ty : FieldType} (hx : x < 247) (hs : ∀ f, qshp G ad f x = .inr (ci, fs f)) (hset : ∀ f, (fs f).set k (.int v) = fs (upd f k v)) (hl : ∀ f, k < (fs f).length) (hc : vwCl[ci]? = some (C, T, N)) (hin : ∀ q ∈ u_ws C T N, q ∈ lw_gd) (t0 : Nat → FieldType) (hty : ∀ k, k < N → parseFieldDescriptor (T k).2.2.1 = some (t0 k)) (hnm : ∀ a, a < N → ∀ b, b < N → a ≠ b → (T a).2.1 ≠ (T b).2.1) (hk : k < N) (hlink : Cond.fieldLink own index (T k).1 (T k).2.1 (T k).2.2.1 ∈ lw_gd) (hfin : (T k).2.2.2 = false) (hd : parseFieldDescriptor (T k).2.2.1 = some ty) (hn : narrow ty (.int v) = .int v ∧ fits ty (.int v) = true) (hdg : decode cc pc = .ok (.putfield index, 3))
    (kk : ∀ (w1 : qMem) (H1 : Heap) (locs1 : List Loc), w1 = quw w x k v → qRp D G ad s w1 H1 locs1 → W p l e R s m args below meth c H1 locs1 cells slots Q (F0 m (pc + 3) ls rest)) : W p l e R s m args below meth c H locs cells slots Q (F0 m pc ls (.int v :: .ref (ad x) :: rest)) := by
  obtain ⟨hx1, hb, hml, hown, hts, hlo, hK, hJ, hX⟩ := hC
  refine va_put hx1 hb hts hin t0 hty hnm hown hK hR.1 (qD G w hJ _) hR.2 x (by rw [qat G ad w hx, hs]) hc k hk (hts _ hlink) (fun _ h => h) hfin hd hn.1 hn.2 (hl _) hdg (fun H1 locs1 hP hD hS => kk _ H1 locs1 rfl ⟨?_, hS⟩)
  rw [qset G ad w hx _ _ (by rw [hset, hs])] at hP
  exact hP
theorem q_ild (hC : qCx p c cc nL s m args meth own D G ad) (hR : qRp D G ad s w H locs) {x n : Nat} (hx : x < 247) (hs : qshp G ad (w x) x = .inl (G 0, n, .inl (w x))) {i : Int32} {j : Nat} (hin : qin i n = true) (hj : i.toNatClampNeg = j) (hdg : decode cc pc = .ok (.iaload, 1))
    (kk : W p l e R s m args below meth c H locs cells slots Q (F0 m (pc + 1) ls (.int (w x j) :: rest))) : W p l e R s m args below meth c H locs cells slots Q (F0 m pc ls (.int i :: .ref (ad x) :: rest)) := by
  obtain ⟨hx1, hb, hml, hown, hts, hlo, hK, hJ, hX⟩ := hC
  subst hj
  exact va_iald hx1 hb hK hR.1 x 0 (by rw [qat G ad w hx, hs]) rfl (qin_t hin) hdg kk
theorem q_zld (hC : qCx p c cc nL s m args meth own D G ad) (hR : qRp D G ad s w H locs) {x n : Nat} (hx : x < 247) (hs : qshp G ad (w x) x = .inl (G 1, n, .inl (w x))) {i : Int32} {j : Nat} (hin : qin i n = true) (hj : i.toNatClampNeg = j) (hdg : decode cc pc = .ok (.baload, 1))
    (kk : W p l e R s m args below meth c H locs cells slots Q (F0 m (pc + 1) ls (.int (w x j) :: rest))) : W p l e R s m args below meth c H locs cells slots Q (F0 m pc ls (.int i :: .ref (ad x) :: rest)) := by
  obtain ⟨hx1, hb, hml, hown, hts, hlo, hK, hJ, hX⟩ := hC
  subst hj
  exact va_zald hx1 hb hK hR.1 x 1 (by rw [qat G ad w hx, hs]) rfl (qin_t hin) hdg kk
theorem q_cld (hC : qCx p c cc nL s m args meth own D G ad) (hR : qRp D G ad s w H locs) {x n : Nat} (hx : x < 247) (hs : qshp G ad (w x) x = .inl (G 2, n, .inl (w x))) {i : Int32} {j : Nat} (hin : qin i n = true) (hj : i.toNatClampNeg = j) (hdg : decode cc pc = .ok (.caload, 1))
    (kk : W p l e R s m args below meth c H locs cells slots Q (F0 m (pc + 1) ls (.int (w x j) :: rest))) : W p l e R s m args below meth c H locs cells slots Q (F0 m pc ls (.int i :: .ref (ad x) :: rest)) := by
  obtain ⟨hx1, hb, hml, hown, hts, hlo, hK, hJ, hX⟩ := hC
  subst hj
  exact va_cald hx1 hb hK hR.1 x 2 (by rw [qat G ad w hx, hs]) rfl (qin_t hin) hdg kk
theorem q_ist (hC : qCx p c cc nL s m args meth own D G ad) (hR : qRp D G ad s w H locs) {x n : Nat} (hx : x < 247) (hs : ∀ f, qshp G ad f x = .inl (G 0, n, .inl f)) {i v : Int32} {j : Nat} (hin : qin i n = true) (hj : i.toNatClampNeg = j) (hdg : decode cc pc = .ok (.iastore, 1))
    (kk : ∀ (w1 : qMem) (H1 : Heap) (locs1 : List Loc), w1 = quw w x j v → qRp D G ad s w1 H1 locs1 → W p l e R s m args below meth c H1 locs1 cells slots Q (F0 m (pc + 1) ls rest)) : W p l e R s m args below meth c H locs cells slots Q (F0 m pc ls (.int v :: .int i :: .ref (ad x) :: rest)) := by
  obtain ⟨hx1, hb, hml, hown, hts, hlo, hK, hJ, hX⟩ := hC
  subst hj
  refine va_iast hx1 hb hK hR.1 (qD G w hJ _) hR.2 x 0 (by rw [qat G ad w hx, hs]) rfl (qin_t hin) hdg (fun H1 locs1 hP hD hS => kk _ H1 locs1 rfl ⟨?_, hS⟩)
  rw [qset G ad w hx _ _ (by rw [hs])] at hP
  exact hP
theorem q_zst (hC : qCx p c cc nL s m args meth own D G ad) (hR : qRp D G ad s w H locs) {x n : Nat} (hx : x < 247) (hs : ∀ f, qshp G ad f x = .inl (G 1, n, .inl f)) {i v : Int32} {j : Nat} (hin : qin i n = true) (hj : i.toNatClampNeg = j) (hv : vp_nar .boolean v = v) (hdg : decode cc pc = .ok (.bastore, 1))
    (kk : ∀ (w1 : qMem) (H1 : Heap) (locs1 : List Loc), w1 = quw w x j v → qRp D G ad s w1 H1 locs1 → W p l e R s m args below meth c H1 locs1 cells slots Q (F0 m (pc + 1) ls rest)) : W p l e R s m args below meth c H locs cells slots Q (F0 m pc ls (.int v :: .int i :: .ref (ad x) :: rest)) := by
  obtain ⟨hx1, hb, hml, hown, hts, hlo, hK, hJ, hX⟩ := hC
  subst hj
  refine va_zast hx1 hb hK hR.1 (qD G w hJ _) hR.2 x 1 (by rw [qat G ad w hx, hs]) rfl (qin_t hin) hdg (fun H1 locs1 hP hD hS => kk _ H1 locs1 rfl ⟨?_, hS⟩)
  rw [hv, qset G ad w hx _ _ (by rw [hs])] at hP
  exact hP
theorem q_cst (hC : qCx p c cc nL s m args meth own D G ad) (hR : qRp D G ad s w H locs) {x n : Nat} (hx : x < 247) (hs : ∀ f, qshp G ad f x = .inl (G 2, n, .inl f)) {i v : Int32} {j : Nat} (hin : qin i n = true) (hj : i.toNatClampNeg = j) (hv : qisC v = true) (hdg : decode cc pc = .ok (.castore, 1))
    (kk : ∀ (w1 : qMem) (H1 : Heap) (locs1 : List Loc), w1 = quw w x j v → qRp D G ad s w1 H1 locs1 → W p l e R s m args below meth c H1 locs1 cells slots Q (F0 m (pc + 1) ls rest)) : W p l e R s m args below meth c H locs cells slots Q (F0 m pc ls (.int v :: .int i :: .ref (ad x) :: rest)) := by
  obtain ⟨hx1, hb, hml, hown, hts, hlo, hK, hJ, hX⟩ := hC
  subst hj
  refine va_cast hx1 hb hK hR.1 (qD G w hJ _) hR.2 x 2 (by rw [qat G ad w hx, hs]) rfl (qin_t hin) hdg (fun H1 locs1 hP hD hS => kk _ H1 locs1 rfl ⟨?_, hS⟩)
  rw [qisC_nar hv, qset G ad w hx _ _ (by rw [hs])] at hP
  exact hP
theorem q_alen (hC : qCx p c cc nL s m args meth own D G ad) (hR : qRp D G ad s w H locs) {x n t : Nat} {E : (Nat → Int32) ⊕ (Nat → Int64) ⊕ (Nat → UInt32) ⊕ (Nat → UInt64) ⊕ (Nat → Option Nat)} {ty : FieldType} (hx : x < 247) (hs : qshp G ad (w x) x = .inl (G t, n, E)) (ht : (qtys G)[t]? = some (G t, ty)) {v : Int32} (hv : Int32.ofNat n = v) (hdg : decode cc pc = .ok (.arraylength, 1))
    (kk : W p l e R s m args below meth c H locs cells slots Q (F0 m (pc + 1) ls (.int v :: rest))) : W p l e R s m args below meth c H locs cells slots Q (F0 m pc ls (.ref (ad x) :: rest)) := by
  obtain ⟨hx1, hb, hml, hown, hts, hlo, hK, hJ, hX⟩ := hC
  exact va_alen hx1 hb hK hR.1 x t (by rw [qat G ad w hx, hs]) ht hv hdg kk
theorem q_ald (hC : qCx p c cc nL s m args meth own D G ad) (hR : qRp D G ad s w H locs) {x n t : Nat} {f : Nat → Nat} {C : String} (hx : x < 247) (hs : qshp G ad (w x) x = .inl (G t, n, .inr (.inr (.inr (.inr (fun j => some (ad (f j)))))))) (ht : (qtys G)[t]? = some (G t, .object C)) {i : Int32} (hin : qin i n = true) (hdg : decode cc pc = .ok (.aaload, 1))
    (kk : W p l e R s m args below meth c H locs cells slots Q (F0 m (pc + 1) ls (.ref (ad (f i.toNatClampNeg)) :: rest))) : W p l e R s m args below meth c H locs cells slots Q (F0 m pc ls (.int i :: .ref (ad x) :: rest)) := by
  obtain ⟨hx1, hb, hml, hown, hts, hlo, hK, hJ, hX⟩ := hC
  exact va_aldq (f := fun j => some (ad (f j))) hx1 hb hK hR.1 x t (by rw [qat G ad w hx, hs]) ht (qin_t hin) hdg kk
theorem qJ (hC : qCx p c cc nL s m args meth own D G ad) : qInj ad := hC.2.2.2.2.2.2.2.1
theorem qNest (hC : qCx p c cc nL s m args meth own D G ad) : va_Nw (.methodLinkNest RX0 98 yX5_isFloor RX5) s := hC.2.2.2.2.2.2.2.2.2.2.2.2
-- ends
theorem q_iret {w1 : qMem} {mc ms : Nat} {v r : Int32} (hC : qCx p c cc nL s m args meth own D G ad) (hR : qRp D G ad s w H locs) {ty : FieldType} (hr : meth.sig.returnType = some ty) (hn : narrow ty (.int v) = .int v) (hv : v = r) (hw : w = w1) (hdg : decode cc pc = .ok (.ireturn, 1)) :
    W p l e R s m args below meth c H locs mc ms (MQ below (qQI D G ad s w1 r) args s mc ms (qAdr ad s.heap.size)) (F0 m pc ls [.int v]) := by
  subst hv; subst hw
  exact W.zret hC.1 hC.2.1 hr hn (fun t ht hW => ⟨⟨v, (), rfl, rfl, by show va_P D vwCl (qcells G ad w) t.heap; rw [ht]; exact hR.1⟩, hR.2.F ht⟩) hR.2.2.2 hdg hC.2.2.2.2.2.1
theorem q_vret {w1 : qMem} {mc ms : Nat} (hC : qCx p c cc nL s m args meth own D G ad) (hR : qRp D G ad s w H locs) (hr : meth.sig.returnType = none) (hw : w = w1) (hdg : decode cc pc = .ok (.return_, 1)) :
    W p l e R s m args below meth c H locs mc ms (MQ below (qQV D G ad s w1) args s mc ms (qAdr ad s.heap.size)) (F0 m pc ls []) := by
  subst hw
  exact W.vret hC.1 hC.2.1 hr (fun t ht hW => ⟨⟨(), rfl, trivial, by show va_P D vwCl (qcells G ad w) t.heap; rw [ht]; exact hR.1⟩, hR.2.F ht⟩) hR.2.2.2 hdg hC.2.2.2.2.2.1
theorem q_aret {w1 : qMem} {mc ms x x1 : Nat} {n : String} (hC : qCx p c cc nL s m args meth own D G ad) (hR : qRp D G ad s w H locs) (hr : meth.sig.returnType = some (.object n)) (hx : x = x1) (hw : w = w1) (hdg : decode cc pc = .ok (.areturn, 1)) :
    W p l e R s m args below meth c H locs mc ms (MQ below (qQR D G ad s w1 x1) args s mc ms (qAdr ad s.heap.size)) (F0 m pc ls [.ref (ad x)]) := by
  subst hw; subst hx
  exact W.aret hC.1 hC.2.1 hr (Or.inl ⟨n, rfl⟩) (Or.inr ⟨_, rfl⟩) (fun t ht hW => ⟨⟨(), ad x, rfl, trivial, rfl, by show va_P D vwCl (qcells G ad w) t.heap; rw [ht]; exact hR.1⟩, hR.2.F ht⟩) hR.2.2.2 hdg hC.2.2.2.2.2.1
-- calls
theorem q_callVi {y : MethodName} {bytes : ByteArray} {maxL d mc ms index x ci : Nat} {ret : Option FieldType} {As st : List Value} {r : Int32} {w1 : qMem} {fs : List Value} {q : vw_C} (hC : qCx p c cc nL s m args meth own D G ad) (hR : qRp D G ad s w H locs)
    (hM : qCMi l D G ad y bytes maxL ret d mc ms (.ref (ad x) :: As) w r w1) (hx : x < 247) (hs : qshp G ad (w x) x = .inr (ci, fs)) (hc : vwCl[ci]? = some q) (hlk : Cond.methodLink own index y ∈ lw_gd) (hin : Cond.instanceMethod y ∈ lw_gd) (hse : Cond.selects q.1 y y ∈ lw_gd) (hini : Cond.initialized y.cls ∈ lw_gd) (hcode : Cond.code y bytes maxL ret ∈ lw_gd)
    (hd : y.cls ≠ "java/lang/invoke/MethodHandle" ∧ y.cls ≠ "java/lang/invoke/VarHandle" ∧ (parseMethodDescriptor y.desc).map (fun d => d.parameters.length) = some As.length) (hroom : d + 1 ≤ R.frames ∧ 8 + (maxL + 11) + 40 * d ≤ R.locals) (hsz : ls.size = nL) (hst : st = As.reverse ++ .ref (ad x) :: rest) (hcat : (rest.map fun v => v.category).sum ≤ 8) (hdg : decode cc pc = .ok (.invokevirtual index, 3)) (hf : cells + mc ≤ R.cells ∧ slots + ms ≤ R.slots)
    (kk : ∀ (H1 : Heap) (locs1 : List Loc), qRp D G ad s w1 H1 locs1 → W p l e R s m args below meth c H1 locs1 (cells + mc) (slots + ms) Q (F0 m (pc + 3) ls (.int r :: rest))) : W p l e R s m args below meth c H locs cells slots Q (F0 m pc ls st) := by
  obtain ⟨hx1, hb, hml, hown, hts, hlo, hK, hJ, hX⟩ := hC
  have hcB : CallB R s args own index y bytes maxL ret (Cond.code y bytes maxL ret :: lw_gd) (qrm d mc ms) mc ms As.length := callB_of As.length hts (q_goodIn hcode) rfl rfl rfl (hts _ hini) (hts _ hlk) hd hroom
  have hS := hR.2
  let sH : State := { s with heap := H }
  refine va_calli (va_runV (As := As) (rest := rest) (C := q.1) (Ts := lw_gd) ⟨hx1, hb, hml, hown, hts⟩ (hM sH) ⟨hcB, hts _ hin, hts _ hse⟩ ⟨qpre_blind, va_recv hK hR.1 (ci := ci) (q0 := x) hc (by rw [qat G ad w hx, hs]), fun U hU hW => ⟨rfl, by rw [hU], by rw [hU]; exact hR.1, va_K.moved hW.alike hK, by rw [hU]; exact qX_go hX hW hS.2.1 (qAdr_mono hS.1)⟩⟩ rfl rfl hsz hst (lv_room hcat) hdg hf) hS (fun q _ h => qAdr_mono hS.1 q h) (qAdr_mono hS.1) (fun r1 u t H1 locs1 ht hvm hw hB hz1 hk1 hS1 => ?_)
  subst hw
  rw [ht] at hB
  exact kk H1 locs1 ⟨hB, hS1⟩
theorem q_callVv {y : MethodName} {bytes : ByteArray} {maxL d mc ms index x ci : Nat} {ret : Option FieldType} {As st : List Value} {w1 : qMem} {fs : List Value} {q : vw_C} (hC : qCx p c cc nL s m args meth own D G ad) (hR : qRp D G ad s w H locs)
    (hM : qCMv l D G ad y bytes maxL ret d mc ms (.ref (ad x) :: As) w w1) (hx : x < 247) (hs : qshp G ad (w x) x = .inr (ci, fs)) (hc : vwCl[ci]? = some q) (hlk : Cond.methodLink own index y ∈ lw_gd) (hin : Cond.instanceMethod y ∈ lw_gd) (hse : Cond.selects q.1 y y ∈ lw_gd) (hini : Cond.initialized y.cls ∈ lw_gd) (hcode : Cond.code y bytes maxL ret ∈ lw_gd)
    (hd : y.cls ≠ "java/lang/invoke/MethodHandle" ∧ y.cls ≠ "java/lang/invoke/VarHandle" ∧ (parseMethodDescriptor y.desc).map (fun d => d.parameters.length) = some As.length) (hroom : d + 1 ≤ R.frames ∧ 8 + (maxL + 11) + 40 * d ≤ R.locals) (hsz : ls.size = nL) (hst : st = As.reverse ++ .ref (ad x) :: rest) (hcat : (rest.map fun v => v.category).sum ≤ 8) (hdg : decode cc pc = .ok (.invokevirtual index, 3)) (hf : cells + mc ≤ R.cells ∧ slots + ms ≤ R.slots)
    (kk : ∀ (H1 : Heap) (locs1 : List Loc), qRp D G ad s w1 H1 locs1 → W p l e R s m args below meth c H1 locs1 (cells + mc) (slots + ms) Q (F0 m (pc + 3) ls rest)) : W p l e R s m args below meth c H locs cells slots Q (F0 m pc ls st) := by
  obtain ⟨hx1, hb, hml, hown, hts, hlo, hK, hJ, hX⟩ := hC
  have hcB : CallB R s args own index y bytes maxL ret (Cond.code y bytes maxL ret :: lw_gd) (qrm d mc ms) mc ms As.length := callB_of As.length hts (q_goodIn hcode) rfl rfl rfl (hts _ hini) (hts _ hlk) hd hroom
  have hS := hR.2
  let sH : State := { s with heap := H }
  refine va_callv (va_runV (As := As) (rest := rest) (C := q.1) (Ts := lw_gd) ⟨hx1, hb, hml, hown, hts⟩ (hM sH) ⟨hcB, hts _ hin, hts _ hse⟩ ⟨qpre_blind, va_recv hK hR.1 (ci := ci) (q0 := x) hc (by rw [qat G ad w hx, hs]), fun U hU hW => ⟨rfl, by rw [hU], by rw [hU]; exact hR.1, va_K.moved hW.alike hK, by rw [hU]; exact qX_go hX hW hS.2.1 (qAdr_mono hS.1)⟩⟩ rfl rfl hsz hst (lv_room hcat) hdg hf) hS (fun q _ h => qAdr_mono hS.1 q h) (qAdr_mono hS.1) (fun u t H1 locs1 ht hvm hw hB hz1 hk1 hS1 => ?_)
  rw [ht] at hB
  exact kk H1 locs1 ⟨hB, hS1⟩
theorem q_callVr {y : MethodName} {bytes : ByteArray} {maxL d mc ms index x ci x1 : Nat} {ret : Option FieldType} {As st : List Value} {w1 : qMem} {fs : List Value} {q : vw_C} (hC : qCx p c cc nL s m args meth own D G ad) (hR : qRp D G ad s w H locs)
    (hM : qCMr l D G ad y bytes maxL ret d mc ms (.ref (ad x) :: As) w x1 w1) (hx : x < 247) (hs : qshp G ad (w x) x = .inr (ci, fs)) (hc : vwCl[ci]? = some q) (hlk : Cond.methodLink own index y ∈ lw_gd) (hin : Cond.instanceMethod y ∈ lw_gd) (hse : Cond.selects q.1 y y ∈ lw_gd) (hini : Cond.initialized y.cls ∈ lw_gd) (hcode : Cond.code y bytes maxL ret ∈ lw_gd)
    (hd : y.cls ≠ "java/lang/invoke/MethodHandle" ∧ y.cls ≠ "java/lang/invoke/VarHandle" ∧ (parseMethodDescriptor y.desc).map (fun d => d.parameters.length) = some As.length) (hroom : d + 1 ≤ R.frames ∧ 8 + (maxL + 11) + 40 * d ≤ R.locals) (hsz : ls.size = nL) (hst : st = As.reverse ++ .ref (ad x) :: rest) (hcat : (rest.map fun v => v.category).sum ≤ 8) (hdg : decode cc pc = .ok (.invokevirtual index, 3)) (hf : cells + mc ≤ R.cells ∧ slots + ms ≤ R.slots)
    (kk : ∀ (H1 : Heap) (locs1 : List Loc), qRp D G ad s w1 H1 locs1 → W p l e R s m args below meth c H1 locs1 (cells + mc) (slots + ms) Q (F0 m (pc + 3) ls (.ref (ad x1) :: rest))) : W p l e R s m args below meth c H locs cells slots Q (F0 m pc ls st) := by
  obtain ⟨hx1, hb, hml, hown, hts, hlo, hK, hJ, hX⟩ := hC
  have hcB : CallB R s args own index y bytes maxL ret (Cond.code y bytes maxL ret :: lw_gd) (qrm d mc ms) mc ms As.length := callB_of As.length hts (q_goodIn hcode) rfl rfl rfl (hts _ hini) (hts _ hlk) hd hroom
  have hS := hR.2
  let sH : State := { s with heap := H }
  refine va_callr (va_runV (As := As) (rest := rest) (C := q.1) (Ts := lw_gd) ⟨hx1, hb, hml, hown, hts⟩ (hM sH) ⟨hcB, hts _ hin, hts _ hse⟩ ⟨qpre_blind, va_recv hK hR.1 (ci := ci) (q0 := x) hc (by rw [qat G ad w hx, hs]), fun U hU hW => ⟨rfl, by rw [hU], by rw [hU]; exact hR.1, va_K.moved hW.alike hK, by rw [hU]; exact qX_go hX hW hS.2.1 (qAdr_mono hS.1)⟩⟩ rfl rfl hsz hst (lv_room hcat) hdg hf) hS (fun q _ h => qAdr_mono hS.1 q h) (qAdr_mono hS.1) (fun u a t H1 locs1 ht hvm hw hB hz1 hk1 hS1 => ?_)
  rw [ht] at hB
  obtain ⟨rfl, hB⟩ := hB
  exact kk H1 locs1 ⟨hB, hS1⟩
theorem q_callSi {y : MethodName} {bytes : ByteArray} {maxL d mc ms index : Nat} {ret : Option FieldType} {As st : List Value} {r : Int32} {w1 : qMem} (hC : qCx p c cc nL s m args meth own D G ad) (hR : qRp D G ad s w H locs)
    (hM : qCMi l D G ad y bytes maxL ret d mc ms As w r w1) (hlk : Cond.methodLink own index y ∈ lw_gd) (hin : Cond.static y ∈ lw_gd) (hini : Cond.initialized y.cls ∈ lw_gd) (hcode : Cond.code y bytes maxL ret ∈ lw_gd)
    (hd : y.cls ≠ "java/lang/invoke/MethodHandle" ∧ y.cls ≠ "java/lang/invoke/VarHandle" ∧ (parseMethodDescriptor y.desc).map (fun d => d.parameters.length) = some As.length) (hroom : d + 1 ≤ R.frames ∧ 8 + (maxL + 11) + 40 * d ≤ R.locals) (hsz : ls.size = nL) (hst : st = As.reverse ++ rest) (hcat : (rest.map fun v => v.category).sum ≤ 8) (hdg : decode cc pc = .ok (.invokestatic index, 3)) (hf : cells + mc ≤ R.cells ∧ slots + ms ≤ R.slots)
    (kk : ∀ (H1 : Heap) (locs1 : List Loc), qRp D G ad s w1 H1 locs1 → W p l e R s m args below meth c H1 locs1 (cells + mc) (slots + ms) Q (F0 m (pc + 3) ls (.int r :: rest))) : W p l e R s m args below meth c H locs cells slots Q (F0 m pc ls st) := by
  obtain ⟨hx1, hb, hml, hown, hts, hlo, hK, hJ, hX⟩ := hC
  have hcB : CallB R s args own index y bytes maxL ret (Cond.code y bytes maxL ret :: lw_gd) (qrm d mc ms) mc ms As.length := callB_of As.length hts (q_goodIn hcode) rfl rfl rfl (hts _ hini) (hts _ hlk) hd hroom
  have hS := hR.2
  let sH : State := { s with heap := H }
  refine va_calli (va_runS (As := As) (rest := rest) (Ts := lw_gd) ⟨hx1, hb, hml, hown, hts⟩ (hM sH) ⟨hcB, hts _ hin⟩ ⟨qpre_blind, fun U hU hW => ⟨rfl, by rw [hU], by rw [hU]; exact hR.1, va_K.moved hW.alike hK, by rw [hU]; exact qX_go hX hW hS.2.1 (qAdr_mono hS.1)⟩⟩ rfl rfl hsz hst (lv_room hcat) hdg hf) hS (fun q _ h => qAdr_mono hS.1 q h) (qAdr_mono hS.1) (fun r1 u t H1 locs1 ht hvm hw hB hz1 hk1 hS1 => ?_)
  subst hw
  rw [ht] at hB
  exact kk H1 locs1 ⟨hB, hS1⟩
theorem q_callSNi {y : MethodName} {bytes : ByteArray} {maxL d mc ms index : Nat} {host : String} {ret : Option FieldType} {As st : List Value} {r : Int32} {w1 : qMem} (hC : qCx p c cc nL s m args meth own D G ad) (hR : qRp D G ad s w H locs)
    (hM : qCMi l D G ad y bytes maxL ret d mc ms As w r w1) (hlk : va_Nw (.methodLinkNest own index y host) s) (hin : Cond.static y ∈ lw_gd) (hini : Cond.initialized y.cls ∈ lw_gd) (hcode : Cond.code y bytes maxL ret ∈ lw_gd)
    (hd : y.cls ≠ "java/lang/invoke/MethodHandle" ∧ y.cls ≠ "java/lang/invoke/VarHandle" ∧ (parseMethodDescriptor y.desc).map (fun d => d.parameters.length) = some As.length) (hroom : d + 1 ≤ R.frames ∧ 8 + (maxL + 11) + 40 * d ≤ R.locals) (hsz : ls.size = nL) (hst : st = As.reverse ++ rest) (hcat : (rest.map fun v => v.category).sum ≤ 8) (hdg : decode cc pc = .ok (.invokestatic index, 3)) (hf : cells + mc ≤ R.cells ∧ slots + ms ≤ R.slots)
    (kk : ∀ (H1 : Heap) (locs1 : List Loc), qRp D G ad s w1 H1 locs1 → W p l e R s m args below meth c H1 locs1 (cells + mc) (slots + ms) Q (F0 m (pc + 3) ls (.int r :: rest))) : W p l e R s m args below meth c H locs cells slots Q (F0 m pc ls st) := by
  obtain ⟨hx1, hb, hml, hown, hts, hlo, hK, hJ, hX⟩ := hC
  have hcB : va_CN R s args own index y host bytes maxL ret (Cond.code y bytes maxL ret :: lw_gd) (qrm d mc ms) mc ms As.length := va_cnB As.length hts (q_goodIn hcode) rfl rfl rfl hlk (hts _ hini) hd hroom
  have hS := hR.2
  let sH : State := { s with heap := H }
  refine va_calli (va_runSN (As := As) (rest := rest) (Ts := lw_gd) ⟨hx1, hb, hml, hown, hts⟩ (hM sH) ⟨hcB, hts _ hin, trivial⟩ ⟨qpre_blind, fun U hU hW => ⟨rfl, by rw [hU], by rw [hU]; exact hR.1, va_K.moved hW.alike hK, by rw [hU]; exact qX_go hX hW hS.2.1 (qAdr_mono hS.1)⟩⟩ rfl rfl hsz hst (lv_room hcat) hdg hf) hS (fun q _ h => qAdr_mono hS.1 q h) (qAdr_mono hS.1) (fun r1 u t H1 locs1 ht hvm hw hB hz1 hk1 hS1 => ?_)
  subst hw
  rw [ht] at hB
  exact kk H1 locs1 ⟨hB, hS1⟩
end
theorem q_start {l : Launch} {D : va_G} {G : Nat → ClassId} {ad : Nat → Nat} {y : MethodName} {cc : ByteArray} {maxL : Nat} {ret : Option FieldType} {d mc ms : Nat} {av : List Value} {w : qMem} {Qc : State → Array Value → State → Outcome → State → Prop} (own : String) (hown : y.cls = own) (hy : plainName y.cls = true) (hJ : qInj ad) (hQ : ∀ s st : State, s.heap.size = st.heap.size → Qc s = Qc st) (hlen : (lg_sl av).length ≤ maxL)
    (body : ∀ (p : Program) (e : Env) (s : State) (m : MethodId) (args : Array Value) (below : List Frame) (meth : Method) (c : Code) (ls : Array Slot), qCx p c cc maxL s m args meth own D G ad → meth.sig.returnType = ret → qRp D G ad s w s.heap [] → lv_has ls maxL (lv_args 0 av) → W p l e (qrm d mc ms) s m args below meth c s.heap [] 0 0 (MQ below (Qc s) args s mc ms (qAdr ad s.heap.size)) (F0 m 0 ls [])) :
    qCM l D G ad y cc maxL ret d mc ms av w Qc := by
  intro st
  refine Met.ofW (cc := cc) (maxL := maxL) (ret := ret) hy rfl ?_
  intro p e s m args below meth c s₁ B hml hv
  obtain ⟨rfl, hsz, hP, hK, hX⟩ := hv
  have hts := atoms_spec (ws := Cond.code y cc maxL ret :: lw_gd) B.pre
  have hC : qCx p c cc maxL s m av.toArray meth own D G ad := ⟨B.exec, B.bytes, hml, by rw [← hown]; exact findClass_of_methodNamed B.named, fun w hw => hts w (List.mem_cons_of_mem _ hw), B.notSynchronized, hK, hJ, by rw [hsz]; exact hX⟩
  have hl := lv_entry av (n := maxL) hlen
  rw [lg_entry_eq]
  have := body p e s m av.toArray below meth c _ hC B.returns ⟨hP, va_S.rf⟩ hl
  rw [hQ s st hsz, hsz] at this
  exact this
end
section
theorem qk_ac1 : Cond.native arraycopyName ∈ lw_gd := List.mem_filter.mpr ⟨List.mem_of_getElem? (i := 1207) (by decide +kernel), by decide +kernel⟩
theorem qk_ac2 : Cond.static arraycopyName ∈ lw_gd := List.mem_filter.mpr ⟨List.mem_of_getElem? (i := 1206) (by decide +kernel), by decide +kernel⟩
theorem qk_ac3 : Cond.initialized "java/lang/System" ∈ lw_gd := List.mem_filter.mpr ⟨List.mem_of_getElem? (i := 71) (by decide +kernel), by decide +kernel⟩
theorem qin_X0 : ∀ q ∈ u_ws RX0 TX0 13, q ∈ lw_gd := by decide +kernel
theorem qin_X1 : ∀ q ∈ u_ws RX1 TX1 3, q ∈ lw_gd := by decide +kernel
theorem qin_X2 : ∀ q ∈ u_ws RX2 TX2 2, q ∈ lw_gd := by decide +kernel
theorem qin_X3 : ∀ q ∈ u_ws RX3 TX3 7, q ∈ lw_gd := by decide +kernel
theorem qin_X4 : ∀ q ∈ u_ws RX4 TX4 7, q ∈ lw_gd := by decide +kernel
theorem qin_X5 : ∀ q ∈ u_ws RX5 TX5 11, q ∈ lw_gd := by decide +kernel
theorem qin_X6 : ∀ q ∈ u_ws RX6 TX6 21, q ∈ lw_gd := by decide +kernel
def qfs_X0 (ad : Nat → Nat) (h : Nat) (f : Nat → Int32) : List Value := [.ref (ad (19 * h + 1)), .ref (ad (19 * h + 14)), .int (f 2), .ref (ad (19 * h + 15)), .int (f 4), .int (f 5), .int (f 6), .int (f 7), .int (f 8), .int (f 9), .ref (ad (19 * h + 16)), .ref (ad (19 * h + 17)), .ref (ad (19 * h + 18))]
def qfs_X1 (ad : Nat → Nat) (f : Nat → Int32) : List Value := [.ref (ad 230), .int (f 1), .int (f 2)]
def qfs_X2 (ad : Nat → Nat) (f : Nat → Int32) : List Value := [.ref (ad 237), .int (f 1)]
def qfs_X3 (ad : Nat → Nat) (f : Nat → Int32) : List Value := [.int (f 0), .int (f 1), .int (f 2), .int (f 3), .int (f 4), .int (f 5), .int (f 6)]
def qfs_X4 (ad : Nat → Nat) (f : Nat → Int32) : List Value := [.ref (ad 232), .int (f 1), .ref (ad 233), .ref (ad 234), .ref (ad 235), .int (f 5), .int (f 6)]
def qfs_X5 (ad : Nat → Nat) (f : Nat → Int32) : List Value := [.ref (ad 0), .ref (ad 19), .ref (ad 38), .ref (ad 229), .ref (ad 231), .ref (ad 236), .int (f 6), .int (f 7), .int (f 8), .int (f 9), .int (f 10)]
def qfs_X6 (ad : Nat → Nat) (f : Nat → Int32) : List Value := [.ref (ad 239), .ref (ad 240), .ref (ad 241), .ref (ad 242), .int (f 4), .ref (ad 243), .int (f 6), .int (f 7), .int (f 8), .int (f 9), .int (f 10), .int (f 11), .ref (ad 244), .int (f 13), .ref (ad 245), .int (f 15), .int (f 16), .int (f 17), .int (f 18), .ref (ad 246), .int (f 20)]
theorem qsh_229 (G : Nat → ClassId) (ad : Nat → Nat) (f : Nat → Int32) : qshp G ad f 229 = .inr (4, qfs_X1 ad f) := rfl
theorem qsh_236 (G : Nat → ClassId) (ad : Nat → Nat) (f : Nat → Int32) : qshp G ad f 236 = .inr (5, qfs_X2 ad f) := rfl
theorem qsh_231 (G : Nat → ClassId) (ad : Nat → Nat) (f : Nat → Int32) : qshp G ad f 231 = .inr (7, qfs_X4 ad f) := rfl
theorem qsh_228 (G : Nat → ClassId) (ad : Nat → Nat) (f : Nat → Int32) : qshp G ad f 228 = .inr (8, qfs_X5 ad f) := rfl
theorem qsh_238 (G : Nat → ClassId) (ad : Nat → Nat) (f : Nat → Int32) : qshp G ad f 238 = .inr (9, qfs_X6 ad f) := rfl
theorem qsh_230 (G : Nat → ClassId) (ad : Nat → Nat) (f : Nat → Int32) : qshp G ad f 230 = .inl (G 4, 9, .inr (.inr (.inr (.inr (fun j => some (ad (19 * (3 + j)))))))) := rfl
theorem qsh_232 (G : Nat → ClassId) (ad : Nat → Nat) (f : Nat → Int32) : qshp G ad f 232 = .inl (G 2, 60, .inl f) := rfl
theorem qsh_233 (G : Nat → ClassId) (ad : Nat → Nat) (f : Nat → Int32) : qshp G ad f 233 = .inl (G 0, 12, .inl f) := rfl
theorem qsh_234 (G : Nat → ClassId) (ad : Nat → Nat) (f : Nat → Int32) : qshp G ad f 234 = .inl (G 0, 12, .inl f) := rfl
theorem qsh_235 (G : Nat → ClassId) (ad : Nat → Nat) (f : Nat → Int32) : qshp G ad f 235 = .inl (G 0, 12, .inl f) := rfl
theorem qsh_237 (G : Nat → ClassId) (ad : Nat → Nat) (f : Nat → Int32) : qshp G ad f 237 = .inl (G 2, 16, .inl f) := rfl
theorem qsh_239 (G : Nat → ClassId) (ad : Nat → Nat) (f : Nat → Int32) : qshp G ad f 239 = .inl (G 0, 99, .inl f) := rfl
theorem qsh_240 (G : Nat → ClassId) (ad : Nat → Nat) (f : Nat → Int32) : qshp G ad f 240 = .inl (G 0, 99, .inl f) := rfl
theorem qsh_241 (G : Nat → ClassId) (ad : Nat → Nat) (f : Nat → Int32) : qshp G ad f 241 = .inl (G 0, 99, .inl f) := rfl
theorem qsh_242 (G : Nat → ClassId) (ad : Nat → Nat) (f : Nat → Int32) : qshp G ad f 242 = .inl (G 0, 99, .inl f) := rfl
theorem qsh_243 (G : Nat → ClassId) (ad : Nat → Nat) (f : Nat → Int32) : qshp G ad f 243 = .inl (G 0, 792, .inl f) := rfl
theorem qsh_244 (G : Nat → ClassId) (ad : Nat → Nat) (f : Nat → Int32) : qshp G ad f 244 = .inl (G 2, 40, .inl f) := rfl
theorem qsh_245 (G : Nat → ClassId) (ad : Nat → Nat) (f : Nat → Int32) : qshp G ad f 245 = .inl (G 2, 60, .inl f) := rfl
theorem qsh_246 (G : Nat → ClassId) (ad : Nat → Nat) (f : Nat → Int32) : qshp G ad f 246 = .inl (G 0, 180, .inl f) := rfl
section
variable {p : Program} {l : Launch} {e : Env} {R : Room} {s : State} {m : MethodId} {args : Array Value} {below : List Frame} {meth : Method} {c0 : Code} {H : Heap} {locs : List Loc} {cells slots : Nat} {Q : State → Prop} {pc nL : Nat} {ls : Array Slot} {rest : List Value} {cc : ByteArray} {own : String} {D : va_G} {G : Nat → ClassId} {ad : Nat → Nat} {w : qMem}
theorem qget_X0_0 (hC : qCx p c0 cc nL s m args meth own D G ad) (hR : qRp D G ad s w H locs) {h : Nat} (hh : h < 12) {index : Nat} (hlink : Cond.fieldLink own index "QuakeRehearsal$Hall" "props" "[LQuakeRehearsal$Prop;" ∈ lw_gd) (hdg : decode cc pc = .ok (.getfield index, 3)) (kk : W p l e R s m args below meth c0 H locs cells slots Q (F0 m (pc + 3) ls (.ref (ad (19 * h + 1)) :: rest))) : W p l e R s m args below meth c0 H locs cells slots Q (F0 m pc ls (.ref (ad (19 * h)) :: rest)) :=
  q_get hC hR 0 (C := RX0) (T := TX0) (N := 13) (by omega) (qsh_hall G ad _ hh) rfl qin_X0 (by decide) hlink rfl hdg kk
theorem qget_X0_1 (hC : qCx p c0 cc nL s m args meth own D G ad) (hR : qRp D G ad s w H locs) {h : Nat} (hh : h < 12) {index : Nat} (hlink : Cond.fieldLink own index "QuakeRehearsal$Hall" "nobody" "LQuakeRehearsal$Prop;" ∈ lw_gd) (hdg : decode cc pc = .ok (.getfield index, 3)) (kk : W p l e R s m args below meth c0 H locs cells slots Q (F0 m (pc + 3) ls (.ref (ad (19 * h + 14)) :: rest))) : W p l e R s m args below meth c0 H locs cells slots Q (F0 m pc ls (.ref (ad (19 * h)) :: rest)) :=
  q_get hC hR 1 (C := RX0) (T := TX0) (N := 13) (by omega) (qsh_hall G ad _ hh) rfl qin_X0 (by decide) hlink rfl hdg kk
theorem qget_X0_2 (hC : qCx p c0 cc nL s m args meth own D G ad) (hR : qRp D G ad s w H locs) {h : Nat} (hh : h < 12) {index : Nat} (hlink : Cond.fieldLink own index "QuakeRehearsal$Hall" "propCount" "I" ∈ lw_gd) (hdg : decode cc pc = .ok (.getfield index, 3)) (kk : W p l e R s m args below meth c0 H locs cells slots Q (F0 m (pc + 3) ls (.int (w (19 * h) 2) :: rest))) : W p l e R s m args below meth c0 H locs cells slots Q (F0 m pc ls (.ref (ad (19 * h)) :: rest)) :=
  q_get hC hR 2 (C := RX0) (T := TX0) (N := 13) (by omega) (qsh_hall G ad _ hh) rfl qin_X0 (by decide) hlink rfl hdg kk
theorem qput_X0_2 (hC : qCx p c0 cc nL s m args meth own D G ad) (hR : qRp D G ad s w H locs) {h : Nat} (hh : h < 12) {index : Nat} (hlink : Cond.fieldLink own index "QuakeRehearsal$Hall" "propCount" "I" ∈ lw_gd) {v : Int32} (hn : narrow .int (.int v) = .int v ∧ fits .int (.int v) = true) (hdg : decode cc pc = .ok (.putfield index, 3)) (kk : ∀ (w1 : qMem) (H : Heap) (locs : List Loc), w1 = quw w (19 * h) 2 v → qRp D G ad s w1 H locs → W p l e R s m args below meth c0 H locs cells slots Q (F0 m (pc + 3) ls rest)) : W p l e R s m args below meth c0 H locs cells slots Q (F0 m pc ls (.int v :: .ref (ad (19 * h)) :: rest)) :=
  q_put hC hR 2 (C := RX0) (T := TX0) (N := 13) (fs := qfs_X0 ad h) (ty := .int) (by omega) (fun f => qsh_hall G ad f hh) (fun _ => rfl) (fun _ => (by decide : 2 < 13)) rfl qin_X0 tyX0 tyX0_ok nmX0 (by decide) hlink rfl (by decide +kernel) hn hdg kk
theorem qget_X0_3 (hC : qCx p c0 cc nL s m args meth own D G ad) (hR : qRp D G ad s w H locs) {h : Nat} (hh : h < 12) {index : Nat} (hlink : Cond.fieldLink own index "QuakeRehearsal$Hall" "planned" "[I" ∈ lw_gd) (hdg : decode cc pc = .ok (.getfield index, 3)) (kk : W p l e R s m args below meth c0 H locs cells slots Q (F0 m (pc + 3) ls (.ref (ad (19 * h + 15)) :: rest))) : W p l e R s m args below meth c0 H locs cells slots Q (F0 m pc ls (.ref (ad (19 * h)) :: rest)) :=
  q_get hC hR 3 (C := RX0) (T := TX0) (N := 13) (by omega) (qsh_hall G ad _ hh) rfl qin_X0 (by decide) hlink rfl hdg kk
theorem qget_X0_4 (hC : qCx p c0 cc nL s m args meth own D G ad) (hR : qRp D G ad s w H locs) {h : Nat} (hh : h < 12) {index : Nat} (hlink : Cond.fieldLink own index "QuakeRehearsal$Hall" "plannedCount" "I" ∈ lw_gd) (hdg : decode cc pc = .ok (.getfield index, 3)) (kk : W p l e R s m args below meth c0 H locs cells slots Q (F0 m (pc + 3) ls (.int (w (19 * h) 4) :: rest))) : W p l e R s m args below meth c0 H locs cells slots Q (F0 m pc ls (.ref (ad (19 * h)) :: rest)) :=
  q_get hC hR 4 (C := RX0) (T := TX0) (N := 13) (by omega) (qsh_hall G ad _ hh) rfl qin_X0 (by decide) hlink rfl hdg kk
theorem qput_X0_4 (hC : qCx p c0 cc nL s m args meth own D G ad) (hR : qRp D G ad s w H locs) {h : Nat} (hh : h < 12) {index : Nat} (hlink : Cond.fieldLink own index "QuakeRehearsal$Hall" "plannedCount" "I" ∈ lw_gd) {v : Int32} (hn : narrow .int (.int v) = .int v ∧ fits .int (.int v) = true) (hdg : decode cc pc = .ok (.putfield index, 3)) (kk : ∀ (w1 : qMem) (H : Heap) (locs : List Loc), w1 = quw w (19 * h) 4 v → qRp D G ad s w1 H locs → W p l e R s m args below meth c0 H locs cells slots Q (F0 m (pc + 3) ls rest)) : W p l e R s m args below meth c0 H locs cells slots Q (F0 m pc ls (.int v :: .ref (ad (19 * h)) :: rest)) :=
  q_put hC hR 4 (C := RX0) (T := TX0) (N := 13) (fs := qfs_X0 ad h) (ty := .int) (by omega) (fun f => qsh_hall G ad f hh) (fun _ => rfl) (fun _ => (by decide : 4 < 13)) rfl qin_X0 tyX0 tyX0_ok nmX0 (by decide) hlink rfl (by decide +kernel) hn hdg kk
theorem qget_X0_5 (hC : qCx p c0 cc nL s m args meth own D G ad) (hR : qRp D G ad s w H locs) {h : Nat} (hh : h < 12) {index : Nat} (hlink : Cond.fieldLink own index "QuakeRehearsal$Hall" "strength" "I" ∈ lw_gd) (hdg : decode cc pc = .ok (.getfield index, 3)) (kk : W p l e R s m args below meth c0 H locs cells slots Q (F0 m (pc + 3) ls (.int (w (19 * h) 5) :: rest))) : W p l e R s m args below meth c0 H locs cells slots Q (F0 m pc ls (.ref (ad (19 * h)) :: rest)) :=
  q_get hC hR 5 (C := RX0) (T := TX0) (N := 13) (by omega) (qsh_hall G ad _ hh) rfl qin_X0 (by decide) hlink rfl hdg kk
theorem qput_X0_5 (hC : qCx p c0 cc nL s m args meth own D G ad) (hR : qRp D G ad s w H locs) {h : Nat} (hh : h < 12) {index : Nat} (hlink : Cond.fieldLink own index "QuakeRehearsal$Hall" "strength" "I" ∈ lw_gd) {v : Int32} (hn : narrow .int (.int v) = .int v ∧ fits .int (.int v) = true) (hdg : decode cc pc = .ok (.putfield index, 3)) (kk : ∀ (w1 : qMem) (H : Heap) (locs : List Loc), w1 = quw w (19 * h) 5 v → qRp D G ad s w1 H locs → W p l e R s m args below meth c0 H locs cells slots Q (F0 m (pc + 3) ls rest)) : W p l e R s m args below meth c0 H locs cells slots Q (F0 m pc ls (.int v :: .ref (ad (19 * h)) :: rest)) :=
  q_put hC hR 5 (C := RX0) (T := TX0) (N := 13) (fs := qfs_X0 ad h) (ty := .int) (by omega) (fun f => qsh_hall G ad f hh) (fun _ => rfl) (fun _ => (by decide : 5 < 13)) rfl qin_X0 tyX0 tyX0_ok nmX0 (by decide) hlink rfl (by decide +kernel) hn hdg kk
theorem qget_X0_6 (hC : qCx p c0 cc nL s m args meth own D G ad) (hR : qRp D G ad s w H locs) {h : Nat} (hh : h < 12) {index : Nat} (hlink : Cond.fieldLink own index "QuakeRehearsal$Hall" "shocks" "I" ∈ lw_gd) (hdg : decode cc pc = .ok (.getfield index, 3)) (kk : W p l e R s m args below meth c0 H locs cells slots Q (F0 m (pc + 3) ls (.int (w (19 * h) 6) :: rest))) : W p l e R s m args below meth c0 H locs cells slots Q (F0 m pc ls (.ref (ad (19 * h)) :: rest)) :=
  q_get hC hR 6 (C := RX0) (T := TX0) (N := 13) (by omega) (qsh_hall G ad _ hh) rfl qin_X0 (by decide) hlink rfl hdg kk
theorem qput_X0_6 (hC : qCx p c0 cc nL s m args meth own D G ad) (hR : qRp D G ad s w H locs) {h : Nat} (hh : h < 12) {index : Nat} (hlink : Cond.fieldLink own index "QuakeRehearsal$Hall" "shocks" "I" ∈ lw_gd) {v : Int32} (hn : narrow .int (.int v) = .int v ∧ fits .int (.int v) = true) (hdg : decode cc pc = .ok (.putfield index, 3)) (kk : ∀ (w1 : qMem) (H : Heap) (locs : List Loc), w1 = quw w (19 * h) 6 v → qRp D G ad s w1 H locs → W p l e R s m args below meth c0 H locs cells slots Q (F0 m (pc + 3) ls rest)) : W p l e R s m args below meth c0 H locs cells slots Q (F0 m pc ls (.int v :: .ref (ad (19 * h)) :: rest)) :=
  q_put hC hR 6 (C := RX0) (T := TX0) (N := 13) (fs := qfs_X0 ad h) (ty := .int) (by omega) (fun f => qsh_hall G ad f hh) (fun _ => rfl) (fun _ => (by decide : 6 < 13)) rfl qin_X0 tyX0 tyX0_ok nmX0 (by decide) hlink rfl (by decide +kernel) hn hdg kk
theorem qget_X0_7 (hC : qCx p c0 cc nL s m args meth own D G ad) (hR : qRp D G ad s w H locs) {h : Nat} (hh : h < 12) {index : Nat} (hlink : Cond.fieldLink own index "QuakeRehearsal$Hall" "encores" "I" ∈ lw_gd) (hdg : decode cc pc = .ok (.getfield index, 3)) (kk : W p l e R s m args below meth c0 H locs cells slots Q (F0 m (pc + 3) ls (.int (w (19 * h) 7) :: rest))) : W p l e R s m args below meth c0 H locs cells slots Q (F0 m pc ls (.ref (ad (19 * h)) :: rest)) :=
  q_get hC hR 7 (C := RX0) (T := TX0) (N := 13) (by omega) (qsh_hall G ad _ hh) rfl qin_X0 (by decide) hlink rfl hdg kk
theorem qput_X0_7 (hC : qCx p c0 cc nL s m args meth own D G ad) (hR : qRp D G ad s w H locs) {h : Nat} (hh : h < 12) {index : Nat} (hlink : Cond.fieldLink own index "QuakeRehearsal$Hall" "encores" "I" ∈ lw_gd) {v : Int32} (hn : narrow .int (.int v) = .int v ∧ fits .int (.int v) = true) (hdg : decode cc pc = .ok (.putfield index, 3)) (kk : ∀ (w1 : qMem) (H : Heap) (locs : List Loc), w1 = quw w (19 * h) 7 v → qRp D G ad s w1 H locs → W p l e R s m args below meth c0 H locs cells slots Q (F0 m (pc + 3) ls rest)) : W p l e R s m args below meth c0 H locs cells slots Q (F0 m pc ls (.int v :: .ref (ad (19 * h)) :: rest)) :=
  q_put hC hR 7 (C := RX0) (T := TX0) (N := 13) (fs := qfs_X0 ad h) (ty := .int) (by omega) (fun f => qsh_hall G ad f hh) (fun _ => rfl) (fun _ => (by decide : 7 < 13)) rfl qin_X0 tyX0 tyX0_ok nmX0 (by decide) hlink rfl (by decide +kernel) hn hdg kk
theorem qget_X0_8 (hC : qCx p c0 cc nL s m args meth own D G ad) (hR : qRp D G ad s w H locs) {h : Nat} (hh : h < 12) {index : Nat} (hlink : Cond.fieldLink own index "QuakeRehearsal$Hall" "marks" "I" ∈ lw_gd) (hdg : decode cc pc = .ok (.getfield index, 3)) (kk : W p l e R s m args below meth c0 H locs cells slots Q (F0 m (pc + 3) ls (.int (w (19 * h) 8) :: rest))) : W p l e R s m args below meth c0 H locs cells slots Q (F0 m pc ls (.ref (ad (19 * h)) :: rest)) :=
  q_get hC hR 8 (C := RX0) (T := TX0) (N := 13) (by omega) (qsh_hall G ad _ hh) rfl qin_X0 (by decide) hlink rfl hdg kk
theorem qput_X0_8 (hC : qCx p c0 cc nL s m args meth own D G ad) (hR : qRp D G ad s w H locs) {h : Nat} (hh : h < 12) {index : Nat} (hlink : Cond.fieldLink own index "QuakeRehearsal$Hall" "marks" "I" ∈ lw_gd) {v : Int32} (hn : narrow .int (.int v) = .int v ∧ fits .int (.int v) = true) (hdg : decode cc pc = .ok (.putfield index, 3)) (kk : ∀ (w1 : qMem) (H : Heap) (locs : List Loc), w1 = quw w (19 * h) 8 v → qRp D G ad s w1 H locs → W p l e R s m args below meth c0 H locs cells slots Q (F0 m (pc + 3) ls rest)) : W p l e R s m args below meth c0 H locs cells slots Q (F0 m pc ls (.int v :: .ref (ad (19 * h)) :: rest)) :=
  q_put hC hR 8 (C := RX0) (T := TX0) (N := 13) (fs := qfs_X0 ad h) (ty := .int) (by omega) (fun f => qsh_hall G ad f hh) (fun _ => rfl) (fun _ => (by decide : 8 < 13)) rfl qin_X0 tyX0 tyX0_ok nmX0 (by decide) hlink rfl (by decide +kernel) hn hdg kk
theorem qget_X0_9 (hC : qCx p c0 cc nL s m args meth own D G ad) (hR : qRp D G ad s w H locs) {h : Nat} (hh : h < 12) {index : Nat} (hlink : Cond.fieldLink own index "QuakeRehearsal$Hall" "breakages" "I" ∈ lw_gd) (hdg : decode cc pc = .ok (.getfield index, 3)) (kk : W p l e R s m args below meth c0 H locs cells slots Q (F0 m (pc + 3) ls (.int (w (19 * h) 9) :: rest))) : W p l e R s m args below meth c0 H locs cells slots Q (F0 m pc ls (.ref (ad (19 * h)) :: rest)) :=
  q_get hC hR 9 (C := RX0) (T := TX0) (N := 13) (by omega) (qsh_hall G ad _ hh) rfl qin_X0 (by decide) hlink rfl hdg kk
theorem qput_X0_9 (hC : qCx p c0 cc nL s m args meth own D G ad) (hR : qRp D G ad s w H locs) {h : Nat} (hh : h < 12) {index : Nat} (hlink : Cond.fieldLink own index "QuakeRehearsal$Hall" "breakages" "I" ∈ lw_gd) {v : Int32} (hn : narrow .int (.int v) = .int v ∧ fits .int (.int v) = true) (hdg : decode cc pc = .ok (.putfield index, 3)) (kk : ∀ (w1 : qMem) (H : Heap) (locs : List Loc), w1 = quw w (19 * h) 9 v → qRp D G ad s w1 H locs → W p l e R s m args below meth c0 H locs cells slots Q (F0 m (pc + 3) ls rest)) : W p l e R s m args below meth c0 H locs cells slots Q (F0 m pc ls (.int v :: .ref (ad (19 * h)) :: rest)) :=
  q_put hC hR 9 (C := RX0) (T := TX0) (N := 13) (fs := qfs_X0 ad h) (ty := .int) (by omega) (fun f => qsh_hall G ad f hh) (fun _ => rfl) (fun _ => (by decide : 9 < 13)) rfl qin_X0 tyX0 tyX0_ok nmX0 (by decide) hlink rfl (by decide +kernel) hn hdg kk
theorem qget_X0_10 (hC : qCx p c0 cc nL s m args meth own D G ad) (hR : qRp D G ad s w H locs) {h : Nat} (hh : h < 12) {index : Nat} (hlink : Cond.fieldLink own index "QuakeRehearsal$Hall" "hasCat" "[Z" ∈ lw_gd) (hdg : decode cc pc = .ok (.getfield index, 3)) (kk : W p l e R s m args below meth c0 H locs cells slots Q (F0 m (pc + 3) ls (.ref (ad (19 * h + 16)) :: rest))) : W p l e R s m args below meth c0 H locs cells slots Q (F0 m pc ls (.ref (ad (19 * h)) :: rest)) :=
  q_get hC hR 10 (C := RX0) (T := TX0) (N := 13) (by omega) (qsh_hall G ad _ hh) rfl qin_X0 (by decide) hlink rfl hdg kk
theorem qget_X0_11 (hC : qCx p c0 cc nL s m args meth own D G ad) (hR : qRp D G ad s w H locs) {h : Nat} (hh : h < 12) {index : Nat} (hlink : Cond.fieldLink own index "QuakeRehearsal$Hall" "reach" "[I" ∈ lw_gd) (hdg : decode cc pc = .ok (.getfield index, 3)) (kk : W p l e R s m args below meth c0 H locs cells slots Q (F0 m (pc + 3) ls (.ref (ad (19 * h + 17)) :: rest))) : W p l e R s m args below meth c0 H locs cells slots Q (F0 m pc ls (.ref (ad (19 * h)) :: rest)) :=
  q_get hC hR 11 (C := RX0) (T := TX0) (N := 13) (by omega) (qsh_hall G ad _ hh) rfl qin_X0 (by decide) hlink rfl hdg kk
theorem qget_X0_12 (hC : qCx p c0 cc nL s m args meth own D G ad) (hR : qRp D G ad s w H locs) {h : Nat} (hh : h < 12) {index : Nat} (hlink : Cond.fieldLink own index "QuakeRehearsal$Hall" "hasBreakage" "[Z" ∈ lw_gd) (hdg : decode cc pc = .ok (.getfield index, 3)) (kk : W p l e R s m args below meth c0 H locs cells slots Q (F0 m (pc + 3) ls (.ref (ad (19 * h + 18)) :: rest))) : W p l e R s m args below meth c0 H locs cells slots Q (F0 m pc ls (.ref (ad (19 * h)) :: rest)) :=
  q_get hC hR 12 (C := RX0) (T := TX0) (N := 13) (by omega) (qsh_hall G ad _ hh) rfl qin_X0 (by decide) hlink rfl hdg kk
theorem qget_X1_0 (hC : qCx p c0 cc nL s m args meth own D G ad) (hR : qRp D G ad s w H locs) {index : Nat} (hlink : Cond.fieldLink own index "QuakeRehearsal$History" "kept" "[LQuakeRehearsal$Hall;" ∈ lw_gd) (hdg : decode cc pc = .ok (.getfield index, 3)) (kk : W p l e R s m args below meth c0 H locs cells slots Q (F0 m (pc + 3) ls (.ref (ad 230) :: rest))) : W p l e R s m args below meth c0 H locs cells slots Q (F0 m pc ls (.ref (ad 229) :: rest)) :=
  q_get hC hR 0 (C := RX1) (T := TX1) (N := 3) (by decide) (qsh_229 G ad _) rfl qin_X1 (by decide) hlink rfl hdg kk
theorem qget_X1_1 (hC : qCx p c0 cc nL s m args meth own D G ad) (hR : qRp D G ad s w H locs) {index : Nat} (hlink : Cond.fieldLink own index "QuakeRehearsal$History" "next" "I" ∈ lw_gd) (hdg : decode cc pc = .ok (.getfield index, 3)) (kk : W p l e R s m args below meth c0 H locs cells slots Q (F0 m (pc + 3) ls (.int (w 229 1) :: rest))) : W p l e R s m args below meth c0 H locs cells slots Q (F0 m pc ls (.ref (ad 229) :: rest)) :=
  q_get hC hR 1 (C := RX1) (T := TX1) (N := 3) (by decide) (qsh_229 G ad _) rfl qin_X1 (by decide) hlink rfl hdg kk
theorem qput_X1_1 (hC : qCx p c0 cc nL s m args meth own D G ad) (hR : qRp D G ad s w H locs) {index : Nat} (hlink : Cond.fieldLink own index "QuakeRehearsal$History" "next" "I" ∈ lw_gd) {v : Int32} (hn : narrow .int (.int v) = .int v ∧ fits .int (.int v) = true) (hdg : decode cc pc = .ok (.putfield index, 3)) (kk : ∀ (w1 : qMem) (H : Heap) (locs : List Loc), w1 = quw w 229 1 v → qRp D G ad s w1 H locs → W p l e R s m args below meth c0 H locs cells slots Q (F0 m (pc + 3) ls rest)) : W p l e R s m args below meth c0 H locs cells slots Q (F0 m pc ls (.int v :: .ref (ad 229) :: rest)) :=
  q_put hC hR 1 (C := RX1) (T := TX1) (N := 3) (fs := qfs_X1 ad) (ty := .int) (by decide) (fun f => qsh_229 G ad f) (fun _ => rfl) (fun _ => (by decide : 1 < 3)) rfl qin_X1 tyX1 tyX1_ok nmX1 (by decide) hlink rfl (by decide +kernel) hn hdg kk
theorem qget_X1_2 (hC : qCx p c0 cc nL s m args meth own D G ad) (hR : qRp D G ad s w H locs) {index : Nat} (hlink : Cond.fieldLink own index "QuakeRehearsal$History" "depth" "I" ∈ lw_gd) (hdg : decode cc pc = .ok (.getfield index, 3)) (kk : W p l e R s m args below meth c0 H locs cells slots Q (F0 m (pc + 3) ls (.int (w 229 2) :: rest))) : W p l e R s m args below meth c0 H locs cells slots Q (F0 m pc ls (.ref (ad 229) :: rest)) :=
  q_get hC hR 2 (C := RX1) (T := TX1) (N := 3) (by decide) (qsh_229 G ad _) rfl qin_X1 (by decide) hlink rfl hdg kk
theorem qput_X1_2 (hC : qCx p c0 cc nL s m args meth own D G ad) (hR : qRp D G ad s w H locs) {index : Nat} (hlink : Cond.fieldLink own index "QuakeRehearsal$History" "depth" "I" ∈ lw_gd) {v : Int32} (hn : narrow .int (.int v) = .int v ∧ fits .int (.int v) = true) (hdg : decode cc pc = .ok (.putfield index, 3)) (kk : ∀ (w1 : qMem) (H : Heap) (locs : List Loc), w1 = quw w 229 2 v → qRp D G ad s w1 H locs → W p l e R s m args below meth c0 H locs cells slots Q (F0 m (pc + 3) ls rest)) : W p l e R s m args below meth c0 H locs cells slots Q (F0 m pc ls (.int v :: .ref (ad 229) :: rest)) :=
  q_put hC hR 2 (C := RX1) (T := TX1) (N := 3) (fs := qfs_X1 ad) (ty := .int) (by decide) (fun f => qsh_229 G ad f) (fun _ => rfl) (fun _ => (by decide : 2 < 3)) rfl qin_X1 tyX1 tyX1_ok nmX1 (by decide) hlink rfl (by decide +kernel) hn hdg kk
theorem qget_X2_0 (hC : qCx p c0 cc nL s m args meth own D G ad) (hR : qRp D G ad s w H locs) {index : Nat} (hlink : Cond.fieldLink own index "QuakeRehearsal$Line" "signs" "[C" ∈ lw_gd) (hdg : decode cc pc = .ok (.getfield index, 3)) (kk : W p l e R s m args below meth c0 H locs cells slots Q (F0 m (pc + 3) ls (.ref (ad 237) :: rest))) : W p l e R s m args below meth c0 H locs cells slots Q (F0 m pc ls (.ref (ad 236) :: rest)) :=
  q_get hC hR 0 (C := RX2) (T := TX2) (N := 2) (by decide) (qsh_236 G ad _) rfl qin_X2 (by decide) hlink rfl hdg kk
theorem qget_X2_1 (hC : qCx p c0 cc nL s m args meth own D G ad) (hR : qRp D G ad s w H locs) {index : Nat} (hlink : Cond.fieldLink own index "QuakeRehearsal$Line" "length" "I" ∈ lw_gd) (hdg : decode cc pc = .ok (.getfield index, 3)) (kk : W p l e R s m args below meth c0 H locs cells slots Q (F0 m (pc + 3) ls (.int (w 236 1) :: rest))) : W p l e R s m args below meth c0 H locs cells slots Q (F0 m pc ls (.ref (ad 236) :: rest)) :=
  q_get hC hR 1 (C := RX2) (T := TX2) (N := 2) (by decide) (qsh_236 G ad _) rfl qin_X2 (by decide) hlink rfl hdg kk
theorem qput_X2_1 (hC : qCx p c0 cc nL s m args meth own D G ad) (hR : qRp D G ad s w H locs) {index : Nat} (hlink : Cond.fieldLink own index "QuakeRehearsal$Line" "length" "I" ∈ lw_gd) {v : Int32} (hn : narrow .int (.int v) = .int v ∧ fits .int (.int v) = true) (hdg : decode cc pc = .ok (.putfield index, 3)) (kk : ∀ (w1 : qMem) (H : Heap) (locs : List Loc), w1 = quw w 236 1 v → qRp D G ad s w1 H locs → W p l e R s m args below meth c0 H locs cells slots Q (F0 m (pc + 3) ls rest)) : W p l e R s m args below meth c0 H locs cells slots Q (F0 m pc ls (.int v :: .ref (ad 236) :: rest)) :=
  q_put hC hR 1 (C := RX2) (T := TX2) (N := 2) (fs := qfs_X2 ad) (ty := .int) (by decide) (fun f => qsh_236 G ad f) (fun _ => rfl) (fun _ => (by decide : 1 < 2)) rfl qin_X2 tyX2 tyX2_ok nmX2 (by decide) hlink rfl (by decide +kernel) hn hdg kk
theorem qget_X3_0 (hC : qCx p c0 cc nL s m args meth own D G ad) (hR : qRp D G ad s w H locs) {c : Nat} (hc : qisP c) {index : Nat} (hlink : Cond.fieldLink own index "QuakeRehearsal$Prop" "kind" "I" ∈ lw_gd) (hdg : decode cc pc = .ok (.getfield index, 3)) (kk : W p l e R s m args below meth c0 H locs cells slots Q (F0 m (pc + 3) ls (.int (w c 0) :: rest))) : W p l e R s m args below meth c0 H locs cells slots Q (F0 m pc ls (.ref (ad c) :: rest)) :=
  q_get hC hR 0 (C := RX3) (T := TX3) (N := 7) (qisP_lt hc) (qsh_prop G ad _ hc) rfl qin_X3 (by decide) hlink rfl hdg kk
theorem qput_X3_0 (hC : qCx p c0 cc nL s m args meth own D G ad) (hR : qRp D G ad s w H locs) {c : Nat} (hc : qisP c) {index : Nat} (hlink : Cond.fieldLink own index "QuakeRehearsal$Prop" "kind" "I" ∈ lw_gd) {v : Int32} (hn : narrow .int (.int v) = .int v ∧ fits .int (.int v) = true) (hdg : decode cc pc = .ok (.putfield index, 3)) (kk : ∀ (w1 : qMem) (H : Heap) (locs : List Loc), w1 = quw w c 0 v → qRp D G ad s w1 H locs → W p l e R s m args below meth c0 H locs cells slots Q (F0 m (pc + 3) ls rest)) : W p l e R s m args below meth c0 H locs cells slots Q (F0 m pc ls (.int v :: .ref (ad c) :: rest)) :=
  q_put hC hR 0 (C := RX3) (T := TX3) (N := 7) (fs := qfs_X3 ad) (ty := .int) (qisP_lt hc) (fun f => qsh_prop G ad f hc) (fun _ => rfl) (fun _ => (by decide : 0 < 7)) rfl qin_X3 tyX3 tyX3_ok nmX3 (by decide) hlink rfl (by decide +kernel) hn hdg kk
theorem qget_X3_1 (hC : qCx p c0 cc nL s m args meth own D G ad) (hR : qRp D G ad s w H locs) {c : Nat} (hc : qisP c) {index : Nat} (hlink : Cond.fieldLink own index "QuakeRehearsal$Prop" "floor" "I" ∈ lw_gd) (hdg : decode cc pc = .ok (.getfield index, 3)) (kk : W p l e R s m args below meth c0 H locs cells slots Q (F0 m (pc + 3) ls (.int (w c 1) :: rest))) : W p l e R s m args below meth c0 H locs cells slots Q (F0 m pc ls (.ref (ad c) :: rest)) :=
  q_get hC hR 1 (C := RX3) (T := TX3) (N := 7) (qisP_lt hc) (qsh_prop G ad _ hc) rfl qin_X3 (by decide) hlink rfl hdg kk
theorem qput_X3_1 (hC : qCx p c0 cc nL s m args meth own D G ad) (hR : qRp D G ad s w H locs) {c : Nat} (hc : qisP c) {index : Nat} (hlink : Cond.fieldLink own index "QuakeRehearsal$Prop" "floor" "I" ∈ lw_gd) {v : Int32} (hn : narrow .int (.int v) = .int v ∧ fits .int (.int v) = true) (hdg : decode cc pc = .ok (.putfield index, 3)) (kk : ∀ (w1 : qMem) (H : Heap) (locs : List Loc), w1 = quw w c 1 v → qRp D G ad s w1 H locs → W p l e R s m args below meth c0 H locs cells slots Q (F0 m (pc + 3) ls rest)) : W p l e R s m args below meth c0 H locs cells slots Q (F0 m pc ls (.int v :: .ref (ad c) :: rest)) :=
  q_put hC hR 1 (C := RX3) (T := TX3) (N := 7) (fs := qfs_X3 ad) (ty := .int) (qisP_lt hc) (fun f => qsh_prop G ad f hc) (fun _ => rfl) (fun _ => (by decide : 1 < 7)) rfl qin_X3 tyX3 tyX3_ok nmX3 (by decide) hlink rfl (by decide +kernel) hn hdg kk
theorem qget_X3_2 (hC : qCx p c0 cc nL s m args meth own D G ad) (hR : qRp D G ad s w H locs) {c : Nat} (hc : qisP c) {index : Nat} (hlink : Cond.fieldLink own index "QuakeRehearsal$Prop" "measure" "I" ∈ lw_gd) (hdg : decode cc pc = .ok (.getfield index, 3)) (kk : W p l e R s m args below meth c0 H locs cells slots Q (F0 m (pc + 3) ls (.int (w c 2) :: rest))) : W p l e R s m args below meth c0 H locs cells slots Q (F0 m pc ls (.ref (ad c) :: rest)) :=
  q_get hC hR 2 (C := RX3) (T := TX3) (N := 7) (qisP_lt hc) (qsh_prop G ad _ hc) rfl qin_X3 (by decide) hlink rfl hdg kk
theorem qput_X3_2 (hC : qCx p c0 cc nL s m args meth own D G ad) (hR : qRp D G ad s w H locs) {c : Nat} (hc : qisP c) {index : Nat} (hlink : Cond.fieldLink own index "QuakeRehearsal$Prop" "measure" "I" ∈ lw_gd) {v : Int32} (hn : narrow .int (.int v) = .int v ∧ fits .int (.int v) = true) (hdg : decode cc pc = .ok (.putfield index, 3)) (kk : ∀ (w1 : qMem) (H : Heap) (locs : List Loc), w1 = quw w c 2 v → qRp D G ad s w1 H locs → W p l e R s m args below meth c0 H locs cells slots Q (F0 m (pc + 3) ls rest)) : W p l e R s m args below meth c0 H locs cells slots Q (F0 m pc ls (.int v :: .ref (ad c) :: rest)) :=
  q_put hC hR 2 (C := RX3) (T := TX3) (N := 7) (fs := qfs_X3 ad) (ty := .int) (qisP_lt hc) (fun f => qsh_prop G ad f hc) (fun _ => rfl) (fun _ => (by decide : 2 < 7)) rfl qin_X3 tyX3 tyX3_ok nmX3 (by decide) hlink rfl (by decide +kernel) hn hdg kk
theorem qget_X3_3 (hC : qCx p c0 cc nL s m args meth own D G ad) (hR : qRp D G ad s w H locs) {c : Nat} (hc : qisP c) {index : Nat} (hlink : Cond.fieldLink own index "QuakeRehearsal$Prop" "damage" "I" ∈ lw_gd) (hdg : decode cc pc = .ok (.getfield index, 3)) (kk : W p l e R s m args below meth c0 H locs cells slots Q (F0 m (pc + 3) ls (.int (w c 3) :: rest))) : W p l e R s m args below meth c0 H locs cells slots Q (F0 m pc ls (.ref (ad c) :: rest)) :=
  q_get hC hR 3 (C := RX3) (T := TX3) (N := 7) (qisP_lt hc) (qsh_prop G ad _ hc) rfl qin_X3 (by decide) hlink rfl hdg kk
theorem qput_X3_3 (hC : qCx p c0 cc nL s m args meth own D G ad) (hR : qRp D G ad s w H locs) {c : Nat} (hc : qisP c) {index : Nat} (hlink : Cond.fieldLink own index "QuakeRehearsal$Prop" "damage" "I" ∈ lw_gd) {v : Int32} (hn : narrow .int (.int v) = .int v ∧ fits .int (.int v) = true) (hdg : decode cc pc = .ok (.putfield index, 3)) (kk : ∀ (w1 : qMem) (H : Heap) (locs : List Loc), w1 = quw w c 3 v → qRp D G ad s w1 H locs → W p l e R s m args below meth c0 H locs cells slots Q (F0 m (pc + 3) ls rest)) : W p l e R s m args below meth c0 H locs cells slots Q (F0 m pc ls (.int v :: .ref (ad c) :: rest)) :=
  q_put hC hR 3 (C := RX3) (T := TX3) (N := 7) (fs := qfs_X3 ad) (ty := .int) (qisP_lt hc) (fun f => qsh_prop G ad f hc) (fun _ => rfl) (fun _ => (by decide : 3 < 7)) rfl qin_X3 tyX3 tyX3_ok nmX3 (by decide) hlink rfl (by decide +kernel) hn hdg kk
theorem qget_X3_4 (hC : qCx p c0 cc nL s m args meth own D G ad) (hR : qRp D G ad s w H locs) {c : Nat} (hc : qisP c) {index : Nat} (hlink : Cond.fieldLink own index "QuakeRehearsal$Prop" "broken" "Z" ∈ lw_gd) (hdg : decode cc pc = .ok (.getfield index, 3)) (kk : W p l e R s m args below meth c0 H locs cells slots Q (F0 m (pc + 3) ls (.int (w c 4) :: rest))) : W p l e R s m args below meth c0 H locs cells slots Q (F0 m pc ls (.ref (ad c) :: rest)) :=
  q_get hC hR 4 (C := RX3) (T := TX3) (N := 7) (qisP_lt hc) (qsh_prop G ad _ hc) rfl qin_X3 (by decide) hlink rfl hdg kk
theorem qput_X3_4 (hC : qCx p c0 cc nL s m args meth own D G ad) (hR : qRp D G ad s w H locs) {c : Nat} (hc : qisP c) {index : Nat} (hlink : Cond.fieldLink own index "QuakeRehearsal$Prop" "broken" "Z" ∈ lw_gd) {v : Int32} (hn : narrow .boolean (.int v) = .int v ∧ fits .boolean (.int v) = true) (hdg : decode cc pc = .ok (.putfield index, 3)) (kk : ∀ (w1 : qMem) (H : Heap) (locs : List Loc), w1 = quw w c 4 v → qRp D G ad s w1 H locs → W p l e R s m args below meth c0 H locs cells slots Q (F0 m (pc + 3) ls rest)) : W p l e R s m args below meth c0 H locs cells slots Q (F0 m pc ls (.int v :: .ref (ad c) :: rest)) :=
  q_put hC hR 4 (C := RX3) (T := TX3) (N := 7) (fs := qfs_X3 ad) (ty := .boolean) (qisP_lt hc) (fun f => qsh_prop G ad f hc) (fun _ => rfl) (fun _ => (by decide : 4 < 7)) rfl qin_X3 tyX3 tyX3_ok nmX3 (by decide) hlink rfl (by decide +kernel) hn hdg kk
theorem qget_X3_5 (hC : qCx p c0 cc nL s m args meth own D G ad) (hR : qRp D G ad s w H locs) {c : Nat} (hc : qisP c) {index : Nat} (hlink : Cond.fieldLink own index "QuakeRehearsal$Prop" "cued" "I" ∈ lw_gd) (hdg : decode cc pc = .ok (.getfield index, 3)) (kk : W p l e R s m args below meth c0 H locs cells slots Q (F0 m (pc + 3) ls (.int (w c 5) :: rest))) : W p l e R s m args below meth c0 H locs cells slots Q (F0 m pc ls (.ref (ad c) :: rest)) :=
  q_get hC hR 5 (C := RX3) (T := TX3) (N := 7) (qisP_lt hc) (qsh_prop G ad _ hc) rfl qin_X3 (by decide) hlink rfl hdg kk
theorem qput_X3_5 (hC : qCx p c0 cc nL s m args meth own D G ad) (hR : qRp D G ad s w H locs) {c : Nat} (hc : qisP c) {index : Nat} (hlink : Cond.fieldLink own index "QuakeRehearsal$Prop" "cued" "I" ∈ lw_gd) {v : Int32} (hn : narrow .int (.int v) = .int v ∧ fits .int (.int v) = true) (hdg : decode cc pc = .ok (.putfield index, 3)) (kk : ∀ (w1 : qMem) (H : Heap) (locs : List Loc), w1 = quw w c 5 v → qRp D G ad s w1 H locs → W p l e R s m args below meth c0 H locs cells slots Q (F0 m (pc + 3) ls rest)) : W p l e R s m args below meth c0 H locs cells slots Q (F0 m pc ls (.int v :: .ref (ad c) :: rest)) :=
  q_put hC hR 5 (C := RX3) (T := TX3) (N := 7) (fs := qfs_X3 ad) (ty := .int) (qisP_lt hc) (fun f => qsh_prop G ad f hc) (fun _ => rfl) (fun _ => (by decide : 5 < 7)) rfl qin_X3 tyX3 tyX3_ok nmX3 (by decide) hlink rfl (by decide +kernel) hn hdg kk
theorem qget_X3_6 (hC : qCx p c0 cc nL s m args meth own D G ad) (hR : qRp D G ad s w H locs) {c : Nat} (hc : qisP c) {index : Nat} (hlink : Cond.fieldLink own index "QuakeRehearsal$Prop" "tally" "I" ∈ lw_gd) (hdg : decode cc pc = .ok (.getfield index, 3)) (kk : W p l e R s m args below meth c0 H locs cells slots Q (F0 m (pc + 3) ls (.int (w c 6) :: rest))) : W p l e R s m args below meth c0 H locs cells slots Q (F0 m pc ls (.ref (ad c) :: rest)) :=
  q_get hC hR 6 (C := RX3) (T := TX3) (N := 7) (qisP_lt hc) (qsh_prop G ad _ hc) rfl qin_X3 (by decide) hlink rfl hdg kk
theorem qput_X3_6 (hC : qCx p c0 cc nL s m args meth own D G ad) (hR : qRp D G ad s w H locs) {c : Nat} (hc : qisP c) {index : Nat} (hlink : Cond.fieldLink own index "QuakeRehearsal$Prop" "tally" "I" ∈ lw_gd) {v : Int32} (hn : narrow .int (.int v) = .int v ∧ fits .int (.int v) = true) (hdg : decode cc pc = .ok (.putfield index, 3)) (kk : ∀ (w1 : qMem) (H : Heap) (locs : List Loc), w1 = quw w c 6 v → qRp D G ad s w1 H locs → W p l e R s m args below meth c0 H locs cells slots Q (F0 m (pc + 3) ls rest)) : W p l e R s m args below meth c0 H locs cells slots Q (F0 m pc ls (.int v :: .ref (ad c) :: rest)) :=
  q_put hC hR 6 (C := RX3) (T := TX3) (N := 7) (fs := qfs_X3 ad) (ty := .int) (qisP_lt hc) (fun f => qsh_prop G ad f hc) (fun _ => rfl) (fun _ => (by decide : 6 < 7)) rfl qin_X3 tyX3 tyX3_ok nmX3 (by decide) hlink rfl (by decide +kernel) hn hdg kk
theorem qget_X4_0 (hC : qCx p c0 cc nL s m args meth own D G ad) (hR : qRp D G ad s w H locs) {index : Nat} (hlink : Cond.fieldLink own index "QuakeRehearsal$Script" "signs" "[C" ∈ lw_gd) (hdg : decode cc pc = .ok (.getfield index, 3)) (kk : W p l e R s m args below meth c0 H locs cells slots Q (F0 m (pc + 3) ls (.ref (ad 232) :: rest))) : W p l e R s m args below meth c0 H locs cells slots Q (F0 m pc ls (.ref (ad 231) :: rest)) :=
  q_get hC hR 0 (C := RX4) (T := TX4) (N := 7) (by decide) (qsh_231 G ad _) rfl qin_X4 (by decide) hlink rfl hdg kk
theorem qget_X4_1 (hC : qCx p c0 cc nL s m args meth own D G ad) (hR : qRp D G ad s w H locs) {index : Nat} (hlink : Cond.fieldLink own index "QuakeRehearsal$Script" "length" "I" ∈ lw_gd) (hdg : decode cc pc = .ok (.getfield index, 3)) (kk : W p l e R s m args below meth c0 H locs cells slots Q (F0 m (pc + 3) ls (.int (w 231 1) :: rest))) : W p l e R s m args below meth c0 H locs cells slots Q (F0 m pc ls (.ref (ad 231) :: rest)) :=
  q_get hC hR 1 (C := RX4) (T := TX4) (N := 7) (by decide) (qsh_231 G ad _) rfl qin_X4 (by decide) hlink rfl hdg kk
theorem qput_X4_1 (hC : qCx p c0 cc nL s m args meth own D G ad) (hR : qRp D G ad s w H locs) {index : Nat} (hlink : Cond.fieldLink own index "QuakeRehearsal$Script" "length" "I" ∈ lw_gd) {v : Int32} (hn : narrow .int (.int v) = .int v ∧ fits .int (.int v) = true) (hdg : decode cc pc = .ok (.putfield index, 3)) (kk : ∀ (w1 : qMem) (H : Heap) (locs : List Loc), w1 = quw w 231 1 v → qRp D G ad s w1 H locs → W p l e R s m args below meth c0 H locs cells slots Q (F0 m (pc + 3) ls rest)) : W p l e R s m args below meth c0 H locs cells slots Q (F0 m pc ls (.int v :: .ref (ad 231) :: rest)) :=
  q_put hC hR 1 (C := RX4) (T := TX4) (N := 7) (fs := qfs_X4 ad) (ty := .int) (by decide) (fun f => qsh_231 G ad f) (fun _ => rfl) (fun _ => (by decide : 1 < 7)) rfl qin_X4 tyX4 tyX4_ok nmX4 (by decide) hlink rfl (by decide +kernel) hn hdg kk
theorem qget_X4_2 (hC : qCx p c0 cc nL s m args meth own D G ad) (hR : qRp D G ad s w H locs) {index : Nat} (hlink : Cond.fieldLink own index "QuakeRehearsal$Script" "words" "[I" ∈ lw_gd) (hdg : decode cc pc = .ok (.getfield index, 3)) (kk : W p l e R s m args below meth c0 H locs cells slots Q (F0 m (pc + 3) ls (.ref (ad 233) :: rest))) : W p l e R s m args below meth c0 H locs cells slots Q (F0 m pc ls (.ref (ad 231) :: rest)) :=
  q_get hC hR 2 (C := RX4) (T := TX4) (N := 7) (by decide) (qsh_231 G ad _) rfl qin_X4 (by decide) hlink rfl hdg kk
theorem qget_X4_3 (hC : qCx p c0 cc nL s m args meth own D G ad) (hR : qRp D G ad s w H locs) {index : Nat} (hlink : Cond.fieldLink own index "QuakeRehearsal$Script" "firsts" "[I" ∈ lw_gd) (hdg : decode cc pc = .ok (.getfield index, 3)) (kk : W p l e R s m args below meth c0 H locs cells slots Q (F0 m (pc + 3) ls (.ref (ad 234) :: rest))) : W p l e R s m args below meth c0 H locs cells slots Q (F0 m pc ls (.ref (ad 231) :: rest)) :=
  q_get hC hR 3 (C := RX4) (T := TX4) (N := 7) (by decide) (qsh_231 G ad _) rfl qin_X4 (by decide) hlink rfl hdg kk
theorem qget_X4_4 (hC : qCx p c0 cc nL s m args meth own D G ad) (hR : qRp D G ad s w H locs) {index : Nat} (hlink : Cond.fieldLink own index "QuakeRehearsal$Script" "seconds" "[I" ∈ lw_gd) (hdg : decode cc pc = .ok (.getfield index, 3)) (kk : W p l e R s m args below meth c0 H locs cells slots Q (F0 m (pc + 3) ls (.ref (ad 235) :: rest))) : W p l e R s m args below meth c0 H locs cells slots Q (F0 m pc ls (.ref (ad 231) :: rest)) :=
  q_get hC hR 4 (C := RX4) (T := TX4) (N := 7) (by decide) (qsh_231 G ad _) rfl qin_X4 (by decide) hlink rfl hdg kk
theorem qget_X4_5 (hC : qCx p c0 cc nL s m args meth own D G ad) (hR : qRp D G ad s w H locs) {index : Nat} (hlink : Cond.fieldLink own index "QuakeRehearsal$Script" "orderCount" "I" ∈ lw_gd) (hdg : decode cc pc = .ok (.getfield index, 3)) (kk : W p l e R s m args below meth c0 H locs cells slots Q (F0 m (pc + 3) ls (.int (w 231 5) :: rest))) : W p l e R s m args below meth c0 H locs cells slots Q (F0 m pc ls (.ref (ad 231) :: rest)) :=
  q_get hC hR 5 (C := RX4) (T := TX4) (N := 7) (by decide) (qsh_231 G ad _) rfl qin_X4 (by decide) hlink rfl hdg kk
theorem qput_X4_5 (hC : qCx p c0 cc nL s m args meth own D G ad) (hR : qRp D G ad s w H locs) {index : Nat} (hlink : Cond.fieldLink own index "QuakeRehearsal$Script" "orderCount" "I" ∈ lw_gd) {v : Int32} (hn : narrow .int (.int v) = .int v ∧ fits .int (.int v) = true) (hdg : decode cc pc = .ok (.putfield index, 3)) (kk : ∀ (w1 : qMem) (H : Heap) (locs : List Loc), w1 = quw w 231 5 v → qRp D G ad s w1 H locs → W p l e R s m args below meth c0 H locs cells slots Q (F0 m (pc + 3) ls rest)) : W p l e R s m args below meth c0 H locs cells slots Q (F0 m pc ls (.int v :: .ref (ad 231) :: rest)) :=
  q_put hC hR 5 (C := RX4) (T := TX4) (N := 7) (fs := qfs_X4 ad) (ty := .int) (by decide) (fun f => qsh_231 G ad f) (fun _ => rfl) (fun _ => (by decide : 5 < 7)) rfl qin_X4 tyX4 tyX4_ok nmX4 (by decide) hlink rfl (by decide +kernel) hn hdg kk
theorem qget_X4_6 (hC : qCx p c0 cc nL s m args meth own D G ad) (hR : qRp D G ad s w H locs) {index : Nat} (hlink : Cond.fieldLink own index "QuakeRehearsal$Script" "offset" "I" ∈ lw_gd) (hdg : decode cc pc = .ok (.getfield index, 3)) (kk : W p l e R s m args below meth c0 H locs cells slots Q (F0 m (pc + 3) ls (.int (w 231 6) :: rest))) : W p l e R s m args below meth c0 H locs cells slots Q (F0 m pc ls (.ref (ad 231) :: rest)) :=
  q_get hC hR 6 (C := RX4) (T := TX4) (N := 7) (by decide) (qsh_231 G ad _) rfl qin_X4 (by decide) hlink rfl hdg kk
theorem qput_X4_6 (hC : qCx p c0 cc nL s m args meth own D G ad) (hR : qRp D G ad s w H locs) {index : Nat} (hlink : Cond.fieldLink own index "QuakeRehearsal$Script" "offset" "I" ∈ lw_gd) {v : Int32} (hn : narrow .int (.int v) = .int v ∧ fits .int (.int v) = true) (hdg : decode cc pc = .ok (.putfield index, 3)) (kk : ∀ (w1 : qMem) (H : Heap) (locs : List Loc), w1 = quw w 231 6 v → qRp D G ad s w1 H locs → W p l e R s m args below meth c0 H locs cells slots Q (F0 m (pc + 3) ls rest)) : W p l e R s m args below meth c0 H locs cells slots Q (F0 m pc ls (.int v :: .ref (ad 231) :: rest)) :=
  q_put hC hR 6 (C := RX4) (T := TX4) (N := 7) (fs := qfs_X4 ad) (ty := .int) (by decide) (fun f => qsh_231 G ad f) (fun _ => rfl) (fun _ => (by decide : 6 < 7)) rfl qin_X4 tyX4 tyX4_ok nmX4 (by decide) hlink rfl (by decide +kernel) hn hdg kk
theorem qget_X5_0 (hC : qCx p c0 cc nL s m args meth own D G ad) (hR : qRp D G ad s w H locs) {index : Nat} (hlink : Cond.fieldLink own index "QuakeRehearsal" "hall" "LQuakeRehearsal$Hall;" ∈ lw_gd) (hdg : decode cc pc = .ok (.getfield index, 3)) (kk : W p l e R s m args below meth c0 H locs cells slots Q (F0 m (pc + 3) ls (.ref (ad 0) :: rest))) : W p l e R s m args below meth c0 H locs cells slots Q (F0 m pc ls (.ref (ad 228) :: rest)) :=
  q_get hC hR 0 (C := RX5) (T := TX5) (N := 11) (by decide) (qsh_228 G ad _) rfl qin_X5 (by decide) hlink rfl hdg kk
theorem qget_X5_1 (hC : qCx p c0 cc nL s m args meth own D G ad) (hR : qRp D G ad s w H locs) {index : Nat} (hlink : Cond.fieldLink own index "QuakeRehearsal" "thought" "LQuakeRehearsal$Hall;" ∈ lw_gd) (hdg : decode cc pc = .ok (.getfield index, 3)) (kk : W p l e R s m args below meth c0 H locs cells slots Q (F0 m (pc + 3) ls (.ref (ad 19) :: rest))) : W p l e R s m args below meth c0 H locs cells slots Q (F0 m pc ls (.ref (ad 228) :: rest)) :=
  q_get hC hR 1 (C := RX5) (T := TX5) (N := 11) (by decide) (qsh_228 G ad _) rfl qin_X5 (by decide) hlink rfl hdg kk
theorem qget_X5_2 (hC : qCx p c0 cc nL s m args meth own D G ad) (hR : qRp D G ad s w H locs) {index : Nat} (hlink : Cond.fieldLink own index "QuakeRehearsal" "snapshot" "LQuakeRehearsal$Hall;" ∈ lw_gd) (hdg : decode cc pc = .ok (.getfield index, 3)) (kk : W p l e R s m args below meth c0 H locs cells slots Q (F0 m (pc + 3) ls (.ref (ad 38) :: rest))) : W p l e R s m args below meth c0 H locs cells slots Q (F0 m pc ls (.ref (ad 228) :: rest)) :=
  q_get hC hR 2 (C := RX5) (T := TX5) (N := 11) (by decide) (qsh_228 G ad _) rfl qin_X5 (by decide) hlink rfl hdg kk
theorem qget_X5_3 (hC : qCx p c0 cc nL s m args meth own D G ad) (hR : qRp D G ad s w H locs) {index : Nat} (hlink : Cond.fieldLink own index "QuakeRehearsal" "history" "LQuakeRehearsal$History;" ∈ lw_gd) (hdg : decode cc pc = .ok (.getfield index, 3)) (kk : W p l e R s m args below meth c0 H locs cells slots Q (F0 m (pc + 3) ls (.ref (ad 229) :: rest))) : W p l e R s m args below meth c0 H locs cells slots Q (F0 m pc ls (.ref (ad 228) :: rest)) :=
  q_get hC hR 3 (C := RX5) (T := TX5) (N := 11) (by decide) (qsh_228 G ad _) rfl qin_X5 (by decide) hlink rfl hdg kk
theorem qget_X5_4 (hC : qCx p c0 cc nL s m args meth own D G ad) (hR : qRp D G ad s w H locs) {index : Nat} (hlink : Cond.fieldLink own index "QuakeRehearsal" "script" "LQuakeRehearsal$Script;" ∈ lw_gd) (hdg : decode cc pc = .ok (.getfield index, 3)) (kk : W p l e R s m args below meth c0 H locs cells slots Q (F0 m (pc + 3) ls (.ref (ad 231) :: rest))) : W p l e R s m args below meth c0 H locs cells slots Q (F0 m pc ls (.ref (ad 228) :: rest)) :=
  q_get hC hR 4 (C := RX5) (T := TX5) (N := 11) (by decide) (qsh_228 G ad _) rfl qin_X5 (by decide) hlink rfl hdg kk
theorem qget_X5_5 (hC : qCx p c0 cc nL s m args meth own D G ad) (hR : qRp D G ad s w H locs) {index : Nat} (hlink : Cond.fieldLink own index "QuakeRehearsal" "written" "LQuakeRehearsal$Line;" ∈ lw_gd) (hdg : decode cc pc = .ok (.getfield index, 3)) (kk : W p l e R s m args below meth c0 H locs cells slots Q (F0 m (pc + 3) ls (.ref (ad 236) :: rest))) : W p l e R s m args below meth c0 H locs cells slots Q (F0 m pc ls (.ref (ad 228) :: rest)) :=
  q_get hC hR 5 (C := RX5) (T := TX5) (N := 11) (by decide) (qsh_228 G ad _) rfl qin_X5 (by decide) hlink rfl hdg kk
theorem qget_X5_6 (hC : qCx p c0 cc nL s m args meth own D G ad) (hR : qRp D G ad s w H locs) {index : Nat} (hlink : Cond.fieldLink own index "QuakeRehearsal" "hasSnapshot" "Z" ∈ lw_gd) (hdg : decode cc pc = .ok (.getfield index, 3)) (kk : W p l e R s m args below meth c0 H locs cells slots Q (F0 m (pc + 3) ls (.int (w 228 6) :: rest))) : W p l e R s m args below meth c0 H locs cells slots Q (F0 m pc ls (.ref (ad 228) :: rest)) :=
  q_get hC hR 6 (C := RX5) (T := TX5) (N := 11) (by decide) (qsh_228 G ad _) rfl qin_X5 (by decide) hlink rfl hdg kk
theorem qput_X5_6 (hC : qCx p c0 cc nL s m args meth own D G ad) (hR : qRp D G ad s w H locs) {index : Nat} (hlink : Cond.fieldLink own index "QuakeRehearsal" "hasSnapshot" "Z" ∈ lw_gd) {v : Int32} (hn : narrow .boolean (.int v) = .int v ∧ fits .boolean (.int v) = true) (hdg : decode cc pc = .ok (.putfield index, 3)) (kk : ∀ (w1 : qMem) (H : Heap) (locs : List Loc), w1 = quw w 228 6 v → qRp D G ad s w1 H locs → W p l e R s m args below meth c0 H locs cells slots Q (F0 m (pc + 3) ls rest)) : W p l e R s m args below meth c0 H locs cells slots Q (F0 m pc ls (.int v :: .ref (ad 228) :: rest)) :=
  q_put hC hR 6 (C := RX5) (T := TX5) (N := 11) (fs := qfs_X5 ad) (ty := .boolean) (by decide) (fun f => qsh_228 G ad f) (fun _ => rfl) (fun _ => (by decide : 6 < 11)) rfl qin_X5 tyX5 tyX5_ok nmX5 (by decide) hlink rfl (by decide +kernel) hn hdg kk
theorem qget_X5_7 (hC : qCx p c0 cc nL s m args meth own D G ad) (hR : qRp D G ad s w H locs) {index : Nat} (hlink : Cond.fieldLink own index "QuakeRehearsal" "errorPlace" "I" ∈ lw_gd) (hdg : decode cc pc = .ok (.getfield index, 3)) (kk : W p l e R s m args below meth c0 H locs cells slots Q (F0 m (pc + 3) ls (.int (w 228 7) :: rest))) : W p l e R s m args below meth c0 H locs cells slots Q (F0 m pc ls (.ref (ad 228) :: rest)) :=
  q_get hC hR 7 (C := RX5) (T := TX5) (N := 11) (by decide) (qsh_228 G ad _) rfl qin_X5 (by decide) hlink rfl hdg kk
theorem qput_X5_7 (hC : qCx p c0 cc nL s m args meth own D G ad) (hR : qRp D G ad s w H locs) {index : Nat} (hlink : Cond.fieldLink own index "QuakeRehearsal" "errorPlace" "I" ∈ lw_gd) {v : Int32} (hn : narrow .int (.int v) = .int v ∧ fits .int (.int v) = true) (hdg : decode cc pc = .ok (.putfield index, 3)) (kk : ∀ (w1 : qMem) (H : Heap) (locs : List Loc), w1 = quw w 228 7 v → qRp D G ad s w1 H locs → W p l e R s m args below meth c0 H locs cells slots Q (F0 m (pc + 3) ls rest)) : W p l e R s m args below meth c0 H locs cells slots Q (F0 m pc ls (.int v :: .ref (ad 228) :: rest)) :=
  q_put hC hR 7 (C := RX5) (T := TX5) (N := 11) (fs := qfs_X5 ad) (ty := .int) (by decide) (fun f => qsh_228 G ad f) (fun _ => rfl) (fun _ => (by decide : 7 < 11)) rfl qin_X5 tyX5 tyX5_ok nmX5 (by decide) hlink rfl (by decide +kernel) hn hdg kk
theorem qget_X5_8 (hC : qCx p c0 cc nL s m args meth own D G ad) (hR : qRp D G ad s w H locs) {index : Nat} (hlink : Cond.fieldLink own index "QuakeRehearsal" "reason" "I" ∈ lw_gd) (hdg : decode cc pc = .ok (.getfield index, 3)) (kk : W p l e R s m args below meth c0 H locs cells slots Q (F0 m (pc + 3) ls (.int (w 228 8) :: rest))) : W p l e R s m args below meth c0 H locs cells slots Q (F0 m pc ls (.ref (ad 228) :: rest)) :=
  q_get hC hR 8 (C := RX5) (T := TX5) (N := 11) (by decide) (qsh_228 G ad _) rfl qin_X5 (by decide) hlink rfl hdg kk
theorem qput_X5_8 (hC : qCx p c0 cc nL s m args meth own D G ad) (hR : qRp D G ad s w H locs) {index : Nat} (hlink : Cond.fieldLink own index "QuakeRehearsal" "reason" "I" ∈ lw_gd) {v : Int32} (hn : narrow .int (.int v) = .int v ∧ fits .int (.int v) = true) (hdg : decode cc pc = .ok (.putfield index, 3)) (kk : ∀ (w1 : qMem) (H : Heap) (locs : List Loc), w1 = quw w 228 8 v → qRp D G ad s w1 H locs → W p l e R s m args below meth c0 H locs cells slots Q (F0 m (pc + 3) ls rest)) : W p l e R s m args below meth c0 H locs cells slots Q (F0 m pc ls (.int v :: .ref (ad 228) :: rest)) :=
  q_put hC hR 8 (C := RX5) (T := TX5) (N := 11) (fs := qfs_X5 ad) (ty := .int) (by decide) (fun f => qsh_228 G ad f) (fun _ => rfl) (fun _ => (by decide : 8 < 11)) rfl qin_X5 tyX5 tyX5_ok nmX5 (by decide) hlink rfl (by decide +kernel) hn hdg kk
theorem qget_X5_9 (hC : qCx p c0 cc nL s m args meth own D G ad) (hR : qRp D G ad s w H locs) {index : Nat} (hlink : Cond.fieldLink own index "QuakeRehearsal" "detail" "I" ∈ lw_gd) (hdg : decode cc pc = .ok (.getfield index, 3)) (kk : W p l e R s m args below meth c0 H locs cells slots Q (F0 m (pc + 3) ls (.int (w 228 9) :: rest))) : W p l e R s m args below meth c0 H locs cells slots Q (F0 m pc ls (.ref (ad 228) :: rest)) :=
  q_get hC hR 9 (C := RX5) (T := TX5) (N := 11) (by decide) (qsh_228 G ad _) rfl qin_X5 (by decide) hlink rfl hdg kk
theorem qput_X5_9 (hC : qCx p c0 cc nL s m args meth own D G ad) (hR : qRp D G ad s w H locs) {index : Nat} (hlink : Cond.fieldLink own index "QuakeRehearsal" "detail" "I" ∈ lw_gd) {v : Int32} (hn : narrow .int (.int v) = .int v ∧ fits .int (.int v) = true) (hdg : decode cc pc = .ok (.putfield index, 3)) (kk : ∀ (w1 : qMem) (H : Heap) (locs : List Loc), w1 = quw w 228 9 v → qRp D G ad s w1 H locs → W p l e R s m args below meth c0 H locs cells slots Q (F0 m (pc + 3) ls rest)) : W p l e R s m args below meth c0 H locs cells slots Q (F0 m pc ls (.int v :: .ref (ad 228) :: rest)) :=
  q_put hC hR 9 (C := RX5) (T := TX5) (N := 11) (fs := qfs_X5 ad) (ty := .int) (by decide) (fun f => qsh_228 G ad f) (fun _ => rfl) (fun _ => (by decide : 9 < 11)) rfl qin_X5 tyX5 tyX5_ok nmX5 (by decide) hlink rfl (by decide +kernel) hn hdg kk
theorem qget_X5_10 (hC : qCx p c0 cc nL s m args meth own D G ad) (hR : qRp D G ad s w H locs) {index : Nat} (hlink : Cond.fieldLink own index "QuakeRehearsal" "answer" "I" ∈ lw_gd) (hdg : decode cc pc = .ok (.getfield index, 3)) (kk : W p l e R s m args below meth c0 H locs cells slots Q (F0 m (pc + 3) ls (.int (w 228 10) :: rest))) : W p l e R s m args below meth c0 H locs cells slots Q (F0 m pc ls (.ref (ad 228) :: rest)) :=
  q_get hC hR 10 (C := RX5) (T := TX5) (N := 11) (by decide) (qsh_228 G ad _) rfl qin_X5 (by decide) hlink rfl hdg kk
theorem qput_X5_10 (hC : qCx p c0 cc nL s m args meth own D G ad) (hR : qRp D G ad s w H locs) {index : Nat} (hlink : Cond.fieldLink own index "QuakeRehearsal" "answer" "I" ∈ lw_gd) {v : Int32} (hn : narrow .int (.int v) = .int v ∧ fits .int (.int v) = true) (hdg : decode cc pc = .ok (.putfield index, 3)) (kk : ∀ (w1 : qMem) (H : Heap) (locs : List Loc), w1 = quw w 228 10 v → qRp D G ad s w1 H locs → W p l e R s m args below meth c0 H locs cells slots Q (F0 m (pc + 3) ls rest)) : W p l e R s m args below meth c0 H locs cells slots Q (F0 m pc ls (.int v :: .ref (ad 228) :: rest)) :=
  q_put hC hR 10 (C := RX5) (T := TX5) (N := 11) (fs := qfs_X5 ad) (ty := .int) (by decide) (fun f => qsh_228 G ad f) (fun _ => rfl) (fun _ => (by decide : 10 < 11)) rfl qin_X5 tyX5 tyX5_ok nmX5 (by decide) hlink rfl (by decide +kernel) hn hdg kk
theorem qget_X6_0 (hC : qCx p c0 cc nL s m args meth own D G ad) (hR : qRp D G ad s w H locs) {index : Nat} (hlink : Cond.fieldLink own index "QuakeRehearsalModel" "s" "[I" ∈ lw_gd) (hdg : decode cc pc = .ok (.getfield index, 3)) (kk : W p l e R s m args below meth c0 H locs cells slots Q (F0 m (pc + 3) ls (.ref (ad 239) :: rest))) : W p l e R s m args below meth c0 H locs cells slots Q (F0 m pc ls (.ref (ad 238) :: rest)) :=
  q_get hC hR 0 (C := RX6) (T := TX6) (N := 21) (by decide) (qsh_238 G ad _) rfl qin_X6 (by decide) hlink rfl hdg kk
theorem qget_X6_1 (hC : qCx p c0 cc nL s m args meth own D G ad) (hR : qRp D G ad s w H locs) {index : Nat} (hlink : Cond.fieldLink own index "QuakeRehearsalModel" "before" "[I" ∈ lw_gd) (hdg : decode cc pc = .ok (.getfield index, 3)) (kk : W p l e R s m args below meth c0 H locs cells slots Q (F0 m (pc + 3) ls (.ref (ad 240) :: rest))) : W p l e R s m args below meth c0 H locs cells slots Q (F0 m pc ls (.ref (ad 238) :: rest)) :=
  q_get hC hR 1 (C := RX6) (T := TX6) (N := 21) (by decide) (qsh_238 G ad _) rfl qin_X6 (by decide) hlink rfl hdg kk
theorem qget_X6_2 (hC : qCx p c0 cc nL s m args meth own D G ad) (hR : qRp D G ad s w H locs) {index : Nat} (hlink : Cond.fieldLink own index "QuakeRehearsalModel" "aside" "[I" ∈ lw_gd) (hdg : decode cc pc = .ok (.getfield index, 3)) (kk : W p l e R s m args below meth c0 H locs cells slots Q (F0 m (pc + 3) ls (.ref (ad 241) :: rest))) : W p l e R s m args below meth c0 H locs cells slots Q (F0 m pc ls (.ref (ad 238) :: rest)) :=
  q_get hC hR 2 (C := RX6) (T := TX6) (N := 21) (by decide) (qsh_238 G ad _) rfl qin_X6 (by decide) hlink rfl hdg kk
theorem qget_X6_3 (hC : qCx p c0 cc nL s m args meth own D G ad) (hR : qRp D G ad s w H locs) {index : Nat} (hlink : Cond.fieldLink own index "QuakeRehearsalModel" "saved" "[I" ∈ lw_gd) (hdg : decode cc pc = .ok (.getfield index, 3)) (kk : W p l e R s m args below meth c0 H locs cells slots Q (F0 m (pc + 3) ls (.ref (ad 242) :: rest))) : W p l e R s m args below meth c0 H locs cells slots Q (F0 m pc ls (.ref (ad 238) :: rest)) :=
  q_get hC hR 3 (C := RX6) (T := TX6) (N := 21) (by decide) (qsh_238 G ad _) rfl qin_X6 (by decide) hlink rfl hdg kk
theorem qget_X6_4 (hC : qCx p c0 cc nL s m args meth own D G ad) (hR : qRp D G ad s w H locs) {index : Nat} (hlink : Cond.fieldLink own index "QuakeRehearsalModel" "isSaved" "Z" ∈ lw_gd) (hdg : decode cc pc = .ok (.getfield index, 3)) (kk : W p l e R s m args below meth c0 H locs cells slots Q (F0 m (pc + 3) ls (.int (w 238 4) :: rest))) : W p l e R s m args below meth c0 H locs cells slots Q (F0 m pc ls (.ref (ad 238) :: rest)) :=
  q_get hC hR 4 (C := RX6) (T := TX6) (N := 21) (by decide) (qsh_238 G ad _) rfl qin_X6 (by decide) hlink rfl hdg kk
theorem qput_X6_4 (hC : qCx p c0 cc nL s m args meth own D G ad) (hR : qRp D G ad s w H locs) {index : Nat} (hlink : Cond.fieldLink own index "QuakeRehearsalModel" "isSaved" "Z" ∈ lw_gd) {v : Int32} (hn : narrow .boolean (.int v) = .int v ∧ fits .boolean (.int v) = true) (hdg : decode cc pc = .ok (.putfield index, 3)) (kk : ∀ (w1 : qMem) (H : Heap) (locs : List Loc), w1 = quw w 238 4 v → qRp D G ad s w1 H locs → W p l e R s m args below meth c0 H locs cells slots Q (F0 m (pc + 3) ls rest)) : W p l e R s m args below meth c0 H locs cells slots Q (F0 m pc ls (.int v :: .ref (ad 238) :: rest)) :=
  q_put hC hR 4 (C := RX6) (T := TX6) (N := 21) (fs := qfs_X6 ad) (ty := .boolean) (by decide) (fun f => qsh_238 G ad f) (fun _ => rfl) (fun _ => (by decide : 4 < 21)) rfl qin_X6 tyX6 tyX6_ok nmX6 (by decide) hlink rfl (by decide +kernel) hn hdg kk
theorem qget_X6_5 (hC : qCx p c0 cc nL s m args meth own D G ad) (hR : qRp D G ad s w H locs) {index : Nat} (hlink : Cond.fieldLink own index "QuakeRehearsalModel" "past" "[I" ∈ lw_gd) (hdg : decode cc pc = .ok (.getfield index, 3)) (kk : W p l e R s m args below meth c0 H locs cells slots Q (F0 m (pc + 3) ls (.ref (ad 243) :: rest))) : W p l e R s m args below meth c0 H locs cells slots Q (F0 m pc ls (.ref (ad 238) :: rest)) :=
  q_get hC hR 5 (C := RX6) (T := TX6) (N := 21) (by decide) (qsh_238 G ad _) rfl qin_X6 (by decide) hlink rfl hdg kk
theorem qget_X6_6 (hC : qCx p c0 cc nL s m args meth own D G ad) (hR : qRp D G ad s w H locs) {index : Nat} (hlink : Cond.fieldLink own index "QuakeRehearsalModel" "pastMany" "I" ∈ lw_gd) (hdg : decode cc pc = .ok (.getfield index, 3)) (kk : W p l e R s m args below meth c0 H locs cells slots Q (F0 m (pc + 3) ls (.int (w 238 6) :: rest))) : W p l e R s m args below meth c0 H locs cells slots Q (F0 m pc ls (.ref (ad 238) :: rest)) :=
  q_get hC hR 6 (C := RX6) (T := TX6) (N := 21) (by decide) (qsh_238 G ad _) rfl qin_X6 (by decide) hlink rfl hdg kk
theorem qput_X6_6 (hC : qCx p c0 cc nL s m args meth own D G ad) (hR : qRp D G ad s w H locs) {index : Nat} (hlink : Cond.fieldLink own index "QuakeRehearsalModel" "pastMany" "I" ∈ lw_gd) {v : Int32} (hn : narrow .int (.int v) = .int v ∧ fits .int (.int v) = true) (hdg : decode cc pc = .ok (.putfield index, 3)) (kk : ∀ (w1 : qMem) (H : Heap) (locs : List Loc), w1 = quw w 238 6 v → qRp D G ad s w1 H locs → W p l e R s m args below meth c0 H locs cells slots Q (F0 m (pc + 3) ls rest)) : W p l e R s m args below meth c0 H locs cells slots Q (F0 m pc ls (.int v :: .ref (ad 238) :: rest)) :=
  q_put hC hR 6 (C := RX6) (T := TX6) (N := 21) (fs := qfs_X6 ad) (ty := .int) (by decide) (fun f => qsh_238 G ad f) (fun _ => rfl) (fun _ => (by decide : 6 < 21)) rfl qin_X6 tyX6 tyX6_ok nmX6 (by decide) hlink rfl (by decide +kernel) hn hdg kk
theorem qget_X6_7 (hC : qCx p c0 cc nL s m args meth own D G ad) (hR : qRp D G ad s w H locs) {index : Nat} (hlink : Cond.fieldLink own index "QuakeRehearsalModel" "thrown" "I" ∈ lw_gd) (hdg : decode cc pc = .ok (.getfield index, 3)) (kk : W p l e R s m args below meth c0 H locs cells slots Q (F0 m (pc + 3) ls (.int (w 238 7) :: rest))) : W p l e R s m args below meth c0 H locs cells slots Q (F0 m pc ls (.ref (ad 238) :: rest)) :=
  q_get hC hR 7 (C := RX6) (T := TX6) (N := 21) (by decide) (qsh_238 G ad _) rfl qin_X6 (by decide) hlink rfl hdg kk
theorem qput_X6_7 (hC : qCx p c0 cc nL s m args meth own D G ad) (hR : qRp D G ad s w H locs) {index : Nat} (hlink : Cond.fieldLink own index "QuakeRehearsalModel" "thrown" "I" ∈ lw_gd) {v : Int32} (hn : narrow .int (.int v) = .int v ∧ fits .int (.int v) = true) (hdg : decode cc pc = .ok (.putfield index, 3)) (kk : ∀ (w1 : qMem) (H : Heap) (locs : List Loc), w1 = quw w 238 7 v → qRp D G ad s w1 H locs → W p l e R s m args below meth c0 H locs cells slots Q (F0 m (pc + 3) ls rest)) : W p l e R s m args below meth c0 H locs cells slots Q (F0 m pc ls (.int v :: .ref (ad 238) :: rest)) :=
  q_put hC hR 7 (C := RX6) (T := TX6) (N := 21) (fs := qfs_X6 ad) (ty := .int) (by decide) (fun f => qsh_238 G ad f) (fun _ => rfl) (fun _ => (by decide : 7 < 21)) rfl qin_X6 tyX6 tyX6_ok nmX6 (by decide) hlink rfl (by decide +kernel) hn hdg kk
theorem qget_X6_8 (hC : qCx p c0 cc nL s m args meth own D G ad) (hR : qRp D G ad s w H locs) {index : Nat} (hlink : Cond.fieldLink own index "QuakeRehearsalModel" "reason" "I" ∈ lw_gd) (hdg : decode cc pc = .ok (.getfield index, 3)) (kk : W p l e R s m args below meth c0 H locs cells slots Q (F0 m (pc + 3) ls (.int (w 238 8) :: rest))) : W p l e R s m args below meth c0 H locs cells slots Q (F0 m pc ls (.ref (ad 238) :: rest)) :=
  q_get hC hR 8 (C := RX6) (T := TX6) (N := 21) (by decide) (qsh_238 G ad _) rfl qin_X6 (by decide) hlink rfl hdg kk
theorem qput_X6_8 (hC : qCx p c0 cc nL s m args meth own D G ad) (hR : qRp D G ad s w H locs) {index : Nat} (hlink : Cond.fieldLink own index "QuakeRehearsalModel" "reason" "I" ∈ lw_gd) {v : Int32} (hn : narrow .int (.int v) = .int v ∧ fits .int (.int v) = true) (hdg : decode cc pc = .ok (.putfield index, 3)) (kk : ∀ (w1 : qMem) (H : Heap) (locs : List Loc), w1 = quw w 238 8 v → qRp D G ad s w1 H locs → W p l e R s m args below meth c0 H locs cells slots Q (F0 m (pc + 3) ls rest)) : W p l e R s m args below meth c0 H locs cells slots Q (F0 m pc ls (.int v :: .ref (ad 238) :: rest)) :=
  q_put hC hR 8 (C := RX6) (T := TX6) (N := 21) (fs := qfs_X6 ad) (ty := .int) (by decide) (fun f => qsh_238 G ad f) (fun _ => rfl) (fun _ => (by decide : 8 < 21)) rfl qin_X6 tyX6 tyX6_ok nmX6 (by decide) hlink rfl (by decide +kernel) hn hdg kk
theorem qget_X6_9 (hC : qCx p c0 cc nL s m args meth own D G ad) (hR : qRp D G ad s w H locs) {index : Nat} (hlink : Cond.fieldLink own index "QuakeRehearsalModel" "detail" "I" ∈ lw_gd) (hdg : decode cc pc = .ok (.getfield index, 3)) (kk : W p l e R s m args below meth c0 H locs cells slots Q (F0 m (pc + 3) ls (.int (w 238 9) :: rest))) : W p l e R s m args below meth c0 H locs cells slots Q (F0 m pc ls (.ref (ad 238) :: rest)) :=
  q_get hC hR 9 (C := RX6) (T := TX6) (N := 21) (by decide) (qsh_238 G ad _) rfl qin_X6 (by decide) hlink rfl hdg kk
theorem qput_X6_9 (hC : qCx p c0 cc nL s m args meth own D G ad) (hR : qRp D G ad s w H locs) {index : Nat} (hlink : Cond.fieldLink own index "QuakeRehearsalModel" "detail" "I" ∈ lw_gd) {v : Int32} (hn : narrow .int (.int v) = .int v ∧ fits .int (.int v) = true) (hdg : decode cc pc = .ok (.putfield index, 3)) (kk : ∀ (w1 : qMem) (H : Heap) (locs : List Loc), w1 = quw w 238 9 v → qRp D G ad s w1 H locs → W p l e R s m args below meth c0 H locs cells slots Q (F0 m (pc + 3) ls rest)) : W p l e R s m args below meth c0 H locs cells slots Q (F0 m pc ls (.int v :: .ref (ad 238) :: rest)) :=
  q_put hC hR 9 (C := RX6) (T := TX6) (N := 21) (fs := qfs_X6 ad) (ty := .int) (by decide) (fun f => qsh_238 G ad f) (fun _ => rfl) (fun _ => (by decide : 9 < 21)) rfl qin_X6 tyX6 tyX6_ok nmX6 (by decide) hlink rfl (by decide +kernel) hn hdg kk
theorem qget_X6_10 (hC : qCx p c0 cc nL s m args meth own D G ad) (hR : qRp D G ad s w H locs) {index : Nat} (hlink : Cond.fieldLink own index "QuakeRehearsalModel" "isRefused" "Z" ∈ lw_gd) (hdg : decode cc pc = .ok (.getfield index, 3)) (kk : W p l e R s m args below meth c0 H locs cells slots Q (F0 m (pc + 3) ls (.int (w 238 10) :: rest))) : W p l e R s m args below meth c0 H locs cells slots Q (F0 m pc ls (.ref (ad 238) :: rest)) :=
  q_get hC hR 10 (C := RX6) (T := TX6) (N := 21) (by decide) (qsh_238 G ad _) rfl qin_X6 (by decide) hlink rfl hdg kk
theorem qput_X6_10 (hC : qCx p c0 cc nL s m args meth own D G ad) (hR : qRp D G ad s w H locs) {index : Nat} (hlink : Cond.fieldLink own index "QuakeRehearsalModel" "isRefused" "Z" ∈ lw_gd) {v : Int32} (hn : narrow .boolean (.int v) = .int v ∧ fits .boolean (.int v) = true) (hdg : decode cc pc = .ok (.putfield index, 3)) (kk : ∀ (w1 : qMem) (H : Heap) (locs : List Loc), w1 = quw w 238 10 v → qRp D G ad s w1 H locs → W p l e R s m args below meth c0 H locs cells slots Q (F0 m (pc + 3) ls rest)) : W p l e R s m args below meth c0 H locs cells slots Q (F0 m pc ls (.int v :: .ref (ad 238) :: rest)) :=
  q_put hC hR 10 (C := RX6) (T := TX6) (N := 21) (fs := qfs_X6 ad) (ty := .boolean) (by decide) (fun f => qsh_238 G ad f) (fun _ => rfl) (fun _ => (by decide : 10 < 21)) rfl qin_X6 tyX6 tyX6_ok nmX6 (by decide) hlink rfl (by decide +kernel) hn hdg kk
theorem qget_X6_11 (hC : qCx p c0 cc nL s m args meth own D G ad) (hR : qRp D G ad s w H locs) {index : Nat} (hlink : Cond.fieldLink own index "QuakeRehearsalModel" "brokeMany" "I" ∈ lw_gd) (hdg : decode cc pc = .ok (.getfield index, 3)) (kk : W p l e R s m args below meth c0 H locs cells slots Q (F0 m (pc + 3) ls (.int (w 238 11) :: rest))) : W p l e R s m args below meth c0 H locs cells slots Q (F0 m pc ls (.ref (ad 238) :: rest)) :=
  q_get hC hR 11 (C := RX6) (T := TX6) (N := 21) (by decide) (qsh_238 G ad _) rfl qin_X6 (by decide) hlink rfl hdg kk
theorem qput_X6_11 (hC : qCx p c0 cc nL s m args meth own D G ad) (hR : qRp D G ad s w H locs) {index : Nat} (hlink : Cond.fieldLink own index "QuakeRehearsalModel" "brokeMany" "I" ∈ lw_gd) {v : Int32} (hn : narrow .int (.int v) = .int v ∧ fits .int (.int v) = true) (hdg : decode cc pc = .ok (.putfield index, 3)) (kk : ∀ (w1 : qMem) (H : Heap) (locs : List Loc), w1 = quw w 238 11 v → qRp D G ad s w1 H locs → W p l e R s m args below meth c0 H locs cells slots Q (F0 m (pc + 3) ls rest)) : W p l e R s m args below meth c0 H locs cells slots Q (F0 m pc ls (.int v :: .ref (ad 238) :: rest)) :=
  q_put hC hR 11 (C := RX6) (T := TX6) (N := 21) (fs := qfs_X6 ad) (ty := .int) (by decide) (fun f => qsh_238 G ad f) (fun _ => rfl) (fun _ => (by decide : 11 < 21)) rfl qin_X6 tyX6 tyX6_ok nmX6 (by decide) hlink rfl (by decide +kernel) hn hdg kk
theorem qget_X6_12 (hC : qCx p c0 cc nL s m args meth own D G ad) (hR : qRp D G ad s w H locs) {index : Nat} (hlink : Cond.fieldLink own index "QuakeRehearsalModel" "line" "[C" ∈ lw_gd) (hdg : decode cc pc = .ok (.getfield index, 3)) (kk : W p l e R s m args below meth c0 H locs cells slots Q (F0 m (pc + 3) ls (.ref (ad 244) :: rest))) : W p l e R s m args below meth c0 H locs cells slots Q (F0 m pc ls (.ref (ad 238) :: rest)) :=
  q_get hC hR 12 (C := RX6) (T := TX6) (N := 21) (by decide) (qsh_238 G ad _) rfl qin_X6 (by decide) hlink rfl hdg kk
theorem qget_X6_13 (hC : qCx p c0 cc nL s m args meth own D G ad) (hR : qRp D G ad s w H locs) {index : Nat} (hlink : Cond.fieldLink own index "QuakeRehearsalModel" "lineMany" "I" ∈ lw_gd) (hdg : decode cc pc = .ok (.getfield index, 3)) (kk : W p l e R s m args below meth c0 H locs cells slots Q (F0 m (pc + 3) ls (.int (w 238 13) :: rest))) : W p l e R s m args below meth c0 H locs cells slots Q (F0 m pc ls (.ref (ad 238) :: rest)) :=
  q_get hC hR 13 (C := RX6) (T := TX6) (N := 21) (by decide) (qsh_238 G ad _) rfl qin_X6 (by decide) hlink rfl hdg kk
theorem qput_X6_13 (hC : qCx p c0 cc nL s m args meth own D G ad) (hR : qRp D G ad s w H locs) {index : Nat} (hlink : Cond.fieldLink own index "QuakeRehearsalModel" "lineMany" "I" ∈ lw_gd) {v : Int32} (hn : narrow .int (.int v) = .int v ∧ fits .int (.int v) = true) (hdg : decode cc pc = .ok (.putfield index, 3)) (kk : ∀ (w1 : qMem) (H : Heap) (locs : List Loc), w1 = quw w 238 13 v → qRp D G ad s w1 H locs → W p l e R s m args below meth c0 H locs cells slots Q (F0 m (pc + 3) ls rest)) : W p l e R s m args below meth c0 H locs cells slots Q (F0 m pc ls (.int v :: .ref (ad 238) :: rest)) :=
  q_put hC hR 13 (C := RX6) (T := TX6) (N := 21) (fs := qfs_X6 ad) (ty := .int) (by decide) (fun f => qsh_238 G ad f) (fun _ => rfl) (fun _ => (by decide : 13 < 21)) rfl qin_X6 tyX6 tyX6_ok nmX6 (by decide) hlink rfl (by decide +kernel) hn hdg kk
theorem qget_X6_14 (hC : qCx p c0 cc nL s m args meth own D G ad) (hR : qRp D G ad s w H locs) {index : Nat} (hlink : Cond.fieldLink own index "QuakeRehearsalModel" "text" "[C" ∈ lw_gd) (hdg : decode cc pc = .ok (.getfield index, 3)) (kk : W p l e R s m args below meth c0 H locs cells slots Q (F0 m (pc + 3) ls (.ref (ad 245) :: rest))) : W p l e R s m args below meth c0 H locs cells slots Q (F0 m pc ls (.ref (ad 238) :: rest)) :=
  q_get hC hR 14 (C := RX6) (T := TX6) (N := 21) (by decide) (qsh_238 G ad _) rfl qin_X6 (by decide) hlink rfl hdg kk
theorem qget_X6_15 (hC : qCx p c0 cc nL s m args meth own D G ad) (hR : qRp D G ad s w H locs) {index : Nat} (hlink : Cond.fieldLink own index "QuakeRehearsalModel" "length" "I" ∈ lw_gd) (hdg : decode cc pc = .ok (.getfield index, 3)) (kk : W p l e R s m args below meth c0 H locs cells slots Q (F0 m (pc + 3) ls (.int (w 238 15) :: rest))) : W p l e R s m args below meth c0 H locs cells slots Q (F0 m pc ls (.ref (ad 238) :: rest)) :=
  q_get hC hR 15 (C := RX6) (T := TX6) (N := 21) (by decide) (qsh_238 G ad _) rfl qin_X6 (by decide) hlink rfl hdg kk
theorem qput_X6_15 (hC : qCx p c0 cc nL s m args meth own D G ad) (hR : qRp D G ad s w H locs) {index : Nat} (hlink : Cond.fieldLink own index "QuakeRehearsalModel" "length" "I" ∈ lw_gd) {v : Int32} (hn : narrow .int (.int v) = .int v ∧ fits .int (.int v) = true) (hdg : decode cc pc = .ok (.putfield index, 3)) (kk : ∀ (w1 : qMem) (H : Heap) (locs : List Loc), w1 = quw w 238 15 v → qRp D G ad s w1 H locs → W p l e R s m args below meth c0 H locs cells slots Q (F0 m (pc + 3) ls rest)) : W p l e R s m args below meth c0 H locs cells slots Q (F0 m pc ls (.int v :: .ref (ad 238) :: rest)) :=
  q_put hC hR 15 (C := RX6) (T := TX6) (N := 21) (fs := qfs_X6 ad) (ty := .int) (by decide) (fun f => qsh_238 G ad f) (fun _ => rfl) (fun _ => (by decide : 15 < 21)) rfl qin_X6 tyX6 tyX6_ok nmX6 (by decide) hlink rfl (by decide +kernel) hn hdg kk
theorem qget_X6_16 (hC : qCx p c0 cc nL s m args meth own D G ad) (hR : qRp D G ad s w H locs) {index : Nat} (hlink : Cond.fieldLink own index "QuakeRehearsalModel" "at" "I" ∈ lw_gd) (hdg : decode cc pc = .ok (.getfield index, 3)) (kk : W p l e R s m args below meth c0 H locs cells slots Q (F0 m (pc + 3) ls (.int (w 238 16) :: rest))) : W p l e R s m args below meth c0 H locs cells slots Q (F0 m pc ls (.ref (ad 238) :: rest)) :=
  q_get hC hR 16 (C := RX6) (T := TX6) (N := 21) (by decide) (qsh_238 G ad _) rfl qin_X6 (by decide) hlink rfl hdg kk
theorem qput_X6_16 (hC : qCx p c0 cc nL s m args meth own D G ad) (hR : qRp D G ad s w H locs) {index : Nat} (hlink : Cond.fieldLink own index "QuakeRehearsalModel" "at" "I" ∈ lw_gd) {v : Int32} (hn : narrow .int (.int v) = .int v ∧ fits .int (.int v) = true) (hdg : decode cc pc = .ok (.putfield index, 3)) (kk : ∀ (w1 : qMem) (H : Heap) (locs : List Loc), w1 = quw w 238 16 v → qRp D G ad s w1 H locs → W p l e R s m args below meth c0 H locs cells slots Q (F0 m (pc + 3) ls rest)) : W p l e R s m args below meth c0 H locs cells slots Q (F0 m pc ls (.int v :: .ref (ad 238) :: rest)) :=
  q_put hC hR 16 (C := RX6) (T := TX6) (N := 21) (fs := qfs_X6 ad) (ty := .int) (by decide) (fun f => qsh_238 G ad f) (fun _ => rfl) (fun _ => (by decide : 16 < 21)) rfl qin_X6 tyX6 tyX6_ok nmX6 (by decide) hlink rfl (by decide +kernel) hn hdg kk
theorem qget_X6_17 (hC : qCx p c0 cc nL s m args meth own D G ad) (hR : qRp D G ad s w H locs) {index : Nat} (hlink : Cond.fieldLink own index "QuakeRehearsalModel" "isWrong" "Z" ∈ lw_gd) (hdg : decode cc pc = .ok (.getfield index, 3)) (kk : W p l e R s m args below meth c0 H locs cells slots Q (F0 m (pc + 3) ls (.int (w 238 17) :: rest))) : W p l e R s m args below meth c0 H locs cells slots Q (F0 m pc ls (.ref (ad 238) :: rest)) :=
  q_get hC hR 17 (C := RX6) (T := TX6) (N := 21) (by decide) (qsh_238 G ad _) rfl qin_X6 (by decide) hlink rfl hdg kk
theorem qput_X6_17 (hC : qCx p c0 cc nL s m args meth own D G ad) (hR : qRp D G ad s w H locs) {index : Nat} (hlink : Cond.fieldLink own index "QuakeRehearsalModel" "isWrong" "Z" ∈ lw_gd) {v : Int32} (hn : narrow .boolean (.int v) = .int v ∧ fits .boolean (.int v) = true) (hdg : decode cc pc = .ok (.putfield index, 3)) (kk : ∀ (w1 : qMem) (H : Heap) (locs : List Loc), w1 = quw w 238 17 v → qRp D G ad s w1 H locs → W p l e R s m args below meth c0 H locs cells slots Q (F0 m (pc + 3) ls rest)) : W p l e R s m args below meth c0 H locs cells slots Q (F0 m pc ls (.int v :: .ref (ad 238) :: rest)) :=
  q_put hC hR 17 (C := RX6) (T := TX6) (N := 21) (fs := qfs_X6 ad) (ty := .boolean) (by decide) (fun f => qsh_238 G ad f) (fun _ => rfl) (fun _ => (by decide : 17 < 21)) rfl qin_X6 tyX6 tyX6_ok nmX6 (by decide) hlink rfl (by decide +kernel) hn hdg kk
theorem qget_X6_18 (hC : qCx p c0 cc nL s m args meth own D G ad) (hR : qRp D G ad s w H locs) {index : Nat} (hlink : Cond.fieldLink own index "QuakeRehearsalModel" "errorAt" "I" ∈ lw_gd) (hdg : decode cc pc = .ok (.getfield index, 3)) (kk : W p l e R s m args below meth c0 H locs cells slots Q (F0 m (pc + 3) ls (.int (w 238 18) :: rest))) : W p l e R s m args below meth c0 H locs cells slots Q (F0 m pc ls (.ref (ad 238) :: rest)) :=
  q_get hC hR 18 (C := RX6) (T := TX6) (N := 21) (by decide) (qsh_238 G ad _) rfl qin_X6 (by decide) hlink rfl hdg kk
theorem qput_X6_18 (hC : qCx p c0 cc nL s m args meth own D G ad) (hR : qRp D G ad s w H locs) {index : Nat} (hlink : Cond.fieldLink own index "QuakeRehearsalModel" "errorAt" "I" ∈ lw_gd) {v : Int32} (hn : narrow .int (.int v) = .int v ∧ fits .int (.int v) = true) (hdg : decode cc pc = .ok (.putfield index, 3)) (kk : ∀ (w1 : qMem) (H : Heap) (locs : List Loc), w1 = quw w 238 18 v → qRp D G ad s w1 H locs → W p l e R s m args below meth c0 H locs cells slots Q (F0 m (pc + 3) ls rest)) : W p l e R s m args below meth c0 H locs cells slots Q (F0 m pc ls (.int v :: .ref (ad 238) :: rest)) :=
  q_put hC hR 18 (C := RX6) (T := TX6) (N := 21) (fs := qfs_X6 ad) (ty := .int) (by decide) (fun f => qsh_238 G ad f) (fun _ => rfl) (fun _ => (by decide : 18 < 21)) rfl qin_X6 tyX6 tyX6_ok nmX6 (by decide) hlink rfl (by decide +kernel) hn hdg kk
theorem qget_X6_19 (hC : qCx p c0 cc nL s m args meth own D G ad) (hR : qRp D G ad s w H locs) {index : Nat} (hlink : Cond.fieldLink own index "QuakeRehearsalModel" "orders" "[I" ∈ lw_gd) (hdg : decode cc pc = .ok (.getfield index, 3)) (kk : W p l e R s m args below meth c0 H locs cells slots Q (F0 m (pc + 3) ls (.ref (ad 246) :: rest))) : W p l e R s m args below meth c0 H locs cells slots Q (F0 m pc ls (.ref (ad 238) :: rest)) :=
  q_get hC hR 19 (C := RX6) (T := TX6) (N := 21) (by decide) (qsh_238 G ad _) rfl qin_X6 (by decide) hlink rfl hdg kk
theorem qget_X6_20 (hC : qCx p c0 cc nL s m args meth own D G ad) (hR : qRp D G ad s w H locs) {index : Nat} (hlink : Cond.fieldLink own index "QuakeRehearsalModel" "orderMany" "I" ∈ lw_gd) (hdg : decode cc pc = .ok (.getfield index, 3)) (kk : W p l e R s m args below meth c0 H locs cells slots Q (F0 m (pc + 3) ls (.int (w 238 20) :: rest))) : W p l e R s m args below meth c0 H locs cells slots Q (F0 m pc ls (.ref (ad 238) :: rest)) :=
  q_get hC hR 20 (C := RX6) (T := TX6) (N := 21) (by decide) (qsh_238 G ad _) rfl qin_X6 (by decide) hlink rfl hdg kk
theorem qput_X6_20 (hC : qCx p c0 cc nL s m args meth own D G ad) (hR : qRp D G ad s w H locs) {index : Nat} (hlink : Cond.fieldLink own index "QuakeRehearsalModel" "orderMany" "I" ∈ lw_gd) {v : Int32} (hn : narrow .int (.int v) = .int v ∧ fits .int (.int v) = true) (hdg : decode cc pc = .ok (.putfield index, 3)) (kk : ∀ (w1 : qMem) (H : Heap) (locs : List Loc), w1 = quw w 238 20 v → qRp D G ad s w1 H locs → W p l e R s m args below meth c0 H locs cells slots Q (F0 m (pc + 3) ls rest)) : W p l e R s m args below meth c0 H locs cells slots Q (F0 m pc ls (.int v :: .ref (ad 238) :: rest)) :=
  q_put hC hR 20 (C := RX6) (T := TX6) (N := 21) (fs := qfs_X6 ad) (ty := .int) (by decide) (fun f => qsh_238 G ad f) (fun _ => rfl) (fun _ => (by decide : 20 < 21)) rfl qin_X6 tyX6 tyX6_ok nmX6 (by decide) hlink rfl (by decide +kernel) hn hdg kk
theorem q_copy (hC : qCx p c0 cc nL s m args meth own D G ad) (hR : qRp D G ad s w H locs) {x y n0 n1 index : Nat} (hx : x < 247) (hy : y < 247) (hs : ∀ f, qshp G ad f x = .inl (G 0, n0, .inl f)) (hs1 : ∀ f, qshp G ad f y = .inl (G 0, n1, .inl f)) {sp dp n : Int32} (hg : qcpy sp dp n n0 n1 = true) (hsz : ls.size = nL) (hlk : Cond.methodLink own index arraycopyName ∈ lw_gd) (hdg : decode cc pc = .ok (.invokestatic index, 3)) (hfr : 1 ≤ R.frames) (hlo : (rest.map fun v => v.category).sum + (nativeFrameWords "java/lang/System" "arraycopy" 5 + 11) ≤ R.locals)
    (kk : ∀ (w1 : qMem) (H : Heap) (locs : List Loc), w1 = qur w y (va_cpy (w x) (w y) sp.toNatClampNeg dp.toNatClampNeg n.toNatClampNeg) → qRp D G ad s w1 H locs → W p l e R s m args below meth c0 H locs cells slots Q (F0 m (pc + 3) ls rest)) : W p l e R s m args below meth c0 H locs cells slots Q (F0 m pc ls (.int n :: .int dp :: .ref (ad y) :: .int sp :: .ref (ad x) :: rest)) := by
  obtain ⟨hx1, hb, hml, hown, hts, hlo1, hK, hJ, hX⟩ := hC
  simp only [qcpy, Bool.and_eq_true, decide_eq_true_eq] at hg
  obtain ⟨g1, g2, g3, g4, g5⟩ := hg
  refine va_copyi hx1 hb (hml.trans hsz.symm) hown (hts _ hlk) (hts _ qk_ac1) (hts _ qk_ac2) (hts _ qk_ac3) hK hR.1 (qD G w hJ _) hR.2 x y 0 0 (by rw [qat G ad w hx, hs]) (by rw [qat G ad w hy, hs1]) rfl rfl rfl g1 g2 g3 g4 g5 (fun _ _ => rfl) hfr hlo hdg (fun H1 locs1 hP hD hS => kk _ H1 locs1 rfl ⟨?_, hS⟩)
  rw [qset G ad w hy _ _ (by rw [hs1])] at hP
  exact hP
end
end
section
theorem qk_0 : Cond.selects RX5 yX5_change yX5_change ∈ lw_gd := List.mem_filter.mpr ⟨List.mem_of_getElem? (i := 0) (by decide +kernel), by decide +kernel⟩
theorem qk_1 : Cond.selects RX5 yX5_tryOrder yX5_tryOrder ∈ lw_gd := List.mem_filter.mpr ⟨List.mem_of_getElem? (i := 1) (by decide +kernel), by decide +kernel⟩
theorem qk_2 : Cond.selects RX5 yX5_tryPlacing yX5_tryPlacing ∈ lw_gd := List.mem_filter.mpr ⟨List.mem_of_getElem? (i := 2) (by decide +kernel), by decide +kernel⟩
theorem qk_3 : Cond.selects RX5 yX5_refuse yX5_refuse ∈ lw_gd := List.mem_filter.mpr ⟨List.mem_of_getElem? (i := 3) (by decide +kernel), by decide +kernel⟩
theorem qk_4 : Cond.selects RX5 yX5_answered yX5_answered ∈ lw_gd := List.mem_filter.mpr ⟨List.mem_of_getElem? (i := 4) (by decide +kernel), by decide +kernel⟩
theorem qk_5 : Cond.selects RX5 yX5_tryTaking yX5_tryTaking ∈ lw_gd := List.mem_filter.mpr ⟨List.mem_of_getElem? (i := 5) (by decide +kernel), by decide +kernel⟩
theorem qk_6 : Cond.selects RX5 yX5_tryCueing yX5_tryCueing ∈ lw_gd := List.mem_filter.mpr ⟨List.mem_of_getElem? (i := 6) (by decide +kernel), by decide +kernel⟩
theorem qk_7 : Cond.selects RX5 yX5_trySetting yX5_trySetting ∈ lw_gd := List.mem_filter.mpr ⟨List.mem_of_getElem? (i := 7) (by decide +kernel), by decide +kernel⟩
theorem qk_8 : Cond.selects RX5 yX5_tryAdding yX5_tryAdding ∈ lw_gd := List.mem_filter.mpr ⟨List.mem_of_getElem? (i := 8) (by decide +kernel), by decide +kernel⟩
theorem qk_9 : Cond.selects RX5 yX5_marksInThought yX5_marksInThought ∈ lw_gd := List.mem_filter.mpr ⟨List.mem_of_getElem? (i := 9) (by decide +kernel), by decide +kernel⟩
theorem qk_10 : Cond.selects RX5 yX5_isReachAlike yX5_isReachAlike ∈ lw_gd := List.mem_filter.mpr ⟨List.mem_of_getElem? (i := 10) (by decide +kernel), by decide +kernel⟩
theorem qk_11 : Cond.selects RX5 yX5_areBreakagesAlike yX5_areBreakagesAlike ∈ lw_gd := List.mem_filter.mpr ⟨List.mem_of_getElem? (i := 11) (by decide +kernel), by decide +kernel⟩
theorem qk_12 : Cond.selects RX5 yX5_breakagesInThought yX5_breakagesInThought ∈ lw_gd := List.mem_filter.mpr ⟨List.mem_of_getElem? (i := 12) (by decide +kernel), by decide +kernel⟩
theorem qk_13 : Cond.selects RX5 yX5_placed yX5_placed ∈ lw_gd := List.mem_filter.mpr ⟨List.mem_of_getElem? (i := 13) (by decide +kernel), by decide +kernel⟩
theorem qk_14 : Cond.selects "java/lang/Throwable" ⟨"java/lang/Throwable", "fillInStackTrace", "(I)Ljava/lang/Throwable;"⟩ ⟨"java/lang/Throwable", "fillInStackTrace", "(I)Ljava/lang/Throwable;"⟩ ∈ lw_gd := List.mem_filter.mpr ⟨List.mem_of_getElem? (i := 14) (by decide +kernel), by decide +kernel⟩
theorem qk_15 : Cond.selects RX5 yX5_strengthTold yX5_strengthTold ∈ lw_gd := List.mem_filter.mpr ⟨List.mem_of_getElem? (i := 15) (by decide +kernel), by decide +kernel⟩
theorem qk_16 : Cond.selects RX5 yX5_propNumbered yX5_propNumbered ∈ lw_gd := List.mem_filter.mpr ⟨List.mem_of_getElem? (i := 16) (by decide +kernel), by decide +kernel⟩
theorem qk_17 : Cond.selects RX5 yX5_numberInOrder yX5_numberInOrder ∈ lw_gd := List.mem_filter.mpr ⟨List.mem_of_getElem? (i := 17) (by decide +kernel), by decide +kernel⟩
theorem qk_18 : Cond.selects RX6 yX6_keep yX6_keep ∈ lw_gd := List.mem_filter.mpr ⟨List.mem_of_getElem? (i := 18) (by decide +kernel), by decide +kernel⟩
theorem qk_19 : Cond.selects RX6 yX6_comes yX6_comes ∈ lw_gd := List.mem_filter.mpr ⟨List.mem_of_getElem? (i := 19) (by decide +kernel), by decide +kernel⟩
theorem qk_20 : Cond.selects RX6 yX6_fails yX6_fails ∈ lw_gd := List.mem_filter.mpr ⟨List.mem_of_getElem? (i := 20) (by decide +kernel), by decide +kernel⟩
theorem qk_21 : Cond.selects RX6 yX6_refuse yX6_refuse ∈ lw_gd := List.mem_filter.mpr ⟨List.mem_of_getElem? (i := 21) (by decide +kernel), by decide +kernel⟩
theorem qk_22 : Cond.selects RX6 yX6_there yX6_there ∈ lw_gd := List.mem_filter.mpr ⟨List.mem_of_getElem? (i := 22) (by decide +kernel), by decide +kernel⟩
theorem qk_23 : Cond.selects RX6 yX6_of yX6_of ∈ lw_gd := List.mem_filter.mpr ⟨List.mem_of_getElem? (i := 23) (by decide +kernel), by decide +kernel⟩
theorem qk_24 : Cond.selects RX6 yX6_sets yX6_sets ∈ lw_gd := List.mem_filter.mpr ⟨List.mem_of_getElem? (i := 24) (by decide +kernel), by decide +kernel⟩
theorem qk_25 : Cond.selects RX6 yX6_ends yX6_ends ∈ lw_gd := List.mem_filter.mpr ⟨List.mem_of_getElem? (i := 25) (by decide +kernel), by decide +kernel⟩
theorem qk_26 : Cond.selects RX6 yX6_doTake yX6_doTake ∈ lw_gd := List.mem_filter.mpr ⟨List.mem_of_getElem? (i := 26) (by decide +kernel), by decide +kernel⟩
theorem qk_27 : Cond.selects RX6 yX6_isProp yX6_isProp ∈ lw_gd := List.mem_filter.mpr ⟨List.mem_of_getElem? (i := 27) (by decide +kernel), by decide +kernel⟩
theorem qk_28 : Cond.selects RX6 yX6_doCue yX6_doCue ∈ lw_gd := List.mem_filter.mpr ⟨List.mem_of_getElem? (i := 28) (by decide +kernel), by decide +kernel⟩
theorem qk_29 : Cond.selects RX6 yX6_doSet yX6_doSet ∈ lw_gd := List.mem_filter.mpr ⟨List.mem_of_getElem? (i := 29) (by decide +kernel), by decide +kernel⟩
theorem qk_30 : Cond.selects RX6 yX6_shocks yX6_shocks ∈ lw_gd := List.mem_filter.mpr ⟨List.mem_of_getElem? (i := 30) (by decide +kernel), by decide +kernel⟩
theorem qk_31 : Cond.selects RX6 yX6_strengthOn yX6_strengthOn ∈ lw_gd := List.mem_filter.mpr ⟨List.mem_of_getElem? (i := 31) (by decide +kernel), by decide +kernel⟩
theorem qk_32 : Cond.selects RX6 yX6_shakes yX6_shakes ∈ lw_gd := List.mem_filter.mpr ⟨List.mem_of_getElem? (i := 32) (by decide +kernel), by decide +kernel⟩
theorem qk_33 : Cond.selects RX6 yX6_swings yX6_swings ∈ lw_gd := List.mem_filter.mpr ⟨List.mem_of_getElem? (i := 33) (by decide +kernel), by decide +kernel⟩
theorem qk_34 : Cond.selects RX6 yX6_marks yX6_marks ∈ lw_gd := List.mem_filter.mpr ⟨List.mem_of_getElem? (i := 34) (by decide +kernel), by decide +kernel⟩
theorem qk_35 : Cond.selects RX6 yX6_doAdd yX6_doAdd ∈ lw_gd := List.mem_filter.mpr ⟨List.mem_of_getElem? (i := 35) (by decide +kernel), by decide +kernel⟩
theorem qk_36 : Cond.selects RX6 yX6_doPerform yX6_doPerform ∈ lw_gd := List.mem_filter.mpr ⟨List.mem_of_getElem? (i := 36) (by decide +kernel), by decide +kernel⟩
theorem qk_37 : Cond.selects RX6 yX6_kindMany yX6_kindMany ∈ lw_gd := List.mem_filter.mpr ⟨List.mem_of_getElem? (i := 37) (by decide +kernel), by decide +kernel⟩
theorem qk_38 : Cond.selects RX6 yX6_doQuiet yX6_doQuiet ∈ lw_gd := List.mem_filter.mpr ⟨List.mem_of_getElem? (i := 38) (by decide +kernel), by decide +kernel⟩
theorem qk_39 : Cond.selects RX6 yX6_would yX6_would ∈ lw_gd := List.mem_filter.mpr ⟨List.mem_of_getElem? (i := 39) (by decide +kernel), by decide +kernel⟩
theorem qk_40 : Cond.selects RX6 yX6_thinks yX6_thinks ∈ lw_gd := List.mem_filter.mpr ⟨List.mem_of_getElem? (i := 40) (by decide +kernel), by decide +kernel⟩
theorem qk_41 : Cond.selects RX6 yX6_forgets yX6_forgets ∈ lw_gd := List.mem_filter.mpr ⟨List.mem_of_getElem? (i := 41) (by decide +kernel), by decide +kernel⟩
theorem qk_42 : Cond.selects RX6 yX6_placed yX6_placed ∈ lw_gd := List.mem_filter.mpr ⟨List.mem_of_getElem? (i := 42) (by decide +kernel), by decide +kernel⟩
theorem qk_43 : Cond.selects RX6 yX6_ahead yX6_ahead ∈ lw_gd := List.mem_filter.mpr ⟨List.mem_of_getElem? (i := 43) (by decide +kernel), by decide +kernel⟩
theorem qk_44 : Cond.selects RX6 yX6_says yX6_says ∈ lw_gd := List.mem_filter.mpr ⟨List.mem_of_getElem? (i := 44) (by decide +kernel), by decide +kernel⟩
theorem qk_45 : Cond.selects RX6 yX6_saysNumber yX6_saysNumber ∈ lw_gd := List.mem_filter.mpr ⟨List.mem_of_getElem? (i := 45) (by decide +kernel), by decide +kernel⟩
theorem qk_46 : Cond.selects RX6 yX6_saysValue yX6_saysValue ∈ lw_gd := List.mem_filter.mpr ⟨List.mem_of_getElem? (i := 46) (by decide +kernel), by decide +kernel⟩
theorem qk_47 : Cond.selects RX6 yX6_readOrder yX6_readOrder ∈ lw_gd := List.mem_filter.mpr ⟨List.mem_of_getElem? (i := 47) (by decide +kernel), by decide +kernel⟩
theorem qk_48 : Cond.selects RX6 yX6_word yX6_word ∈ lw_gd := List.mem_filter.mpr ⟨List.mem_of_getElem? (i := 48) (by decide +kernel), by decide +kernel⟩
theorem qk_49 : Cond.selects RX6 yX6_common yX6_common ∈ lw_gd := List.mem_filter.mpr ⟨List.mem_of_getElem? (i := 49) (by decide +kernel), by decide +kernel⟩
theorem qk_50 : Cond.selects RX6 yX6_skip yX6_skip ∈ lw_gd := List.mem_filter.mpr ⟨List.mem_of_getElem? (i := 50) (by decide +kernel), by decide +kernel⟩
theorem qk_51 : Cond.selects RX6 yX6_sign yX6_sign ∈ lw_gd := List.mem_filter.mpr ⟨List.mem_of_getElem? (i := 51) (by decide +kernel), by decide +kernel⟩
theorem qk_52 : Cond.selects RX6 yX6_isHere yX6_isHere ∈ lw_gd := List.mem_filter.mpr ⟨List.mem_of_getElem? (i := 52) (by decide +kernel), by decide +kernel⟩
theorem qk_53 : Cond.selects RX6 yX6_number yX6_number ∈ lw_gd := List.mem_filter.mpr ⟨List.mem_of_getElem? (i := 53) (by decide +kernel), by decide +kernel⟩
theorem qk_54 : Cond.selects RX6 yX6_digit yX6_digit ∈ lw_gd := List.mem_filter.mpr ⟨List.mem_of_getElem? (i := 54) (by decide +kernel), by decide +kernel⟩
theorem qk_55 : Cond.selects RX6 yX6_does yX6_does ∈ lw_gd := List.mem_filter.mpr ⟨List.mem_of_getElem? (i := 55) (by decide +kernel), by decide +kernel⟩
theorem qk_56 : Cond.selects RX6 yX6_brokenMany yX6_brokenMany ∈ lw_gd := List.mem_filter.mpr ⟨List.mem_of_getElem? (i := 56) (by decide +kernel), by decide +kernel⟩
theorem qk_57 : Cond.initialized "QuakeRehearsalLaw" ∈ lw_gd := List.mem_filter.mpr ⟨List.mem_of_getElem? (i := 57) (by decide +kernel), by decide +kernel⟩
theorem qk_58 : Cond.initialized RX5 ∈ lw_gd := List.mem_filter.mpr ⟨List.mem_of_getElem? (i := 58) (by decide +kernel), by decide +kernel⟩
theorem qk_59 : Cond.initialized RX0 ∈ lw_gd := List.mem_filter.mpr ⟨List.mem_of_getElem? (i := 59) (by decide +kernel), by decide +kernel⟩
theorem qk_60 : Cond.initialized RX3 ∈ lw_gd := List.mem_filter.mpr ⟨List.mem_of_getElem? (i := 60) (by decide +kernel), by decide +kernel⟩
theorem qk_61 : Cond.initialized RX1 ∈ lw_gd := List.mem_filter.mpr ⟨List.mem_of_getElem? (i := 61) (by decide +kernel), by decide +kernel⟩
theorem qk_62 : Cond.initialized RX4 ∈ lw_gd := List.mem_filter.mpr ⟨List.mem_of_getElem? (i := 62) (by decide +kernel), by decide +kernel⟩
theorem qk_63 : Cond.initialized RX2 ∈ lw_gd := List.mem_filter.mpr ⟨List.mem_of_getElem? (i := 63) (by decide +kernel), by decide +kernel⟩
theorem qk_64 : Cond.initialized RX6 ∈ lw_gd := List.mem_filter.mpr ⟨List.mem_of_getElem? (i := 64) (by decide +kernel), by decide +kernel⟩
theorem qk_65 : Cond.initialized "java/lang/Math" ∈ lw_gd := List.mem_filter.mpr ⟨List.mem_of_getElem? (i := 65) (by decide +kernel), by decide +kernel⟩
theorem qk_66 : Cond.initialized "java/lang/Throwable" ∈ lw_gd := List.mem_filter.mpr ⟨List.mem_of_getElem? (i := 66) (by decide +kernel), by decide +kernel⟩
theorem qk_67 : Cond.initialized "java/lang/Exception" ∈ lw_gd := List.mem_filter.mpr ⟨List.mem_of_getElem? (i := 67) (by decide +kernel), by decide +kernel⟩
theorem qk_68 : Cond.initialized "java/lang/RuntimeException" ∈ lw_gd := List.mem_filter.mpr ⟨List.mem_of_getElem? (i := 68) (by decide +kernel), by decide +kernel⟩
theorem qk_69 : Cond.initialized "java/lang/IllegalArgumentException" ∈ lw_gd := List.mem_filter.mpr ⟨List.mem_of_getElem? (i := 69) (by decide +kernel), by decide +kernel⟩
theorem qk_70 : Cond.initialized "java/lang/UnsupportedOperationException" ∈ lw_gd := List.mem_filter.mpr ⟨List.mem_of_getElem? (i := 70) (by decide +kernel), by decide +kernel⟩
theorem qk_71 : Cond.initialized "java/lang/System" ∈ lw_gd := List.mem_filter.mpr ⟨List.mem_of_getElem? (i := 71) (by decide +kernel), by decide +kernel⟩
theorem qk_72 : Cond.initialized "java/lang/IndexOutOfBoundsException" ∈ lw_gd := List.mem_filter.mpr ⟨List.mem_of_getElem? (i := 72) (by decide +kernel), by decide +kernel⟩
theorem qk_73 : Cond.initialized "java/lang/ArrayIndexOutOfBoundsException" ∈ lw_gd := List.mem_filter.mpr ⟨List.mem_of_getElem? (i := 73) (by decide +kernel), by decide +kernel⟩
theorem qk_74 : Cond.initialized "java/lang/String" ∈ lw_gd := List.mem_filter.mpr ⟨List.mem_of_getElem? (i := 74) (by decide +kernel), by decide +kernel⟩
theorem qk_75 : Cond.initialized "java/util/NoSuchElementException" ∈ lw_gd := List.mem_filter.mpr ⟨List.mem_of_getElem? (i := 75) (by decide +kernel), by decide +kernel⟩
theorem qk_76 : Cond.initialized "java/lang/Number" ∈ lw_gd := List.mem_filter.mpr ⟨List.mem_of_getElem? (i := 76) (by decide +kernel), by decide +kernel⟩
theorem qk_77 : Cond.initialized RJ6 ∈ lw_gd := List.mem_filter.mpr ⟨List.mem_of_getElem? (i := 77) (by decide +kernel), by decide +kernel⟩
theorem qk_78 : Cond.initialized "java/lang/StringLatin1" ∈ lw_gd := List.mem_filter.mpr ⟨List.mem_of_getElem? (i := 78) (by decide +kernel), by decide +kernel⟩
theorem qk_79 : Cond.initialized "jdk/internal/util/Preconditions" ∈ lw_gd := List.mem_filter.mpr ⟨List.mem_of_getElem? (i := 79) (by decide +kernel), by decide +kernel⟩
theorem qk_80 : Cond.initialized "java/lang/StringUTF16" ∈ lw_gd := List.mem_filter.mpr ⟨List.mem_of_getElem? (i := 80) (by decide +kernel), by decide +kernel⟩
theorem qk_81 : Cond.initialized "java/lang/IllegalStateException" ∈ lw_gd := List.mem_filter.mpr ⟨List.mem_of_getElem? (i := 81) (by decide +kernel), by decide +kernel⟩
theorem qk_82 : Cond.initialized "java/lang/Character" ∈ lw_gd := List.mem_filter.mpr ⟨List.mem_of_getElem? (i := 82) (by decide +kernel), by decide +kernel⟩
theorem qk_83 : Cond.initialized "java/util/Arrays" ∈ lw_gd := List.mem_filter.mpr ⟨List.mem_of_getElem? (i := 83) (by decide +kernel), by decide +kernel⟩
theorem qk_84 : Cond.initialized "java/lang/AbstractStringBuilder" ∈ lw_gd := List.mem_filter.mpr ⟨List.mem_of_getElem? (i := 84) (by decide +kernel), by decide +kernel⟩
theorem qk_85 : Cond.initialized "java/lang/StringBuilder" ∈ lw_gd := List.mem_filter.mpr ⟨List.mem_of_getElem? (i := 85) (by decide +kernel), by decide +kernel⟩
theorem qk_86 : Cond.initialized "jdk/internal/util/ArraysSupport" ∈ lw_gd := List.mem_filter.mpr ⟨List.mem_of_getElem? (i := 86) (by decide +kernel), by decide +kernel⟩
theorem qk_87 : Cond.initialized "java/lang/ArithmeticException" ∈ lw_gd := List.mem_filter.mpr ⟨List.mem_of_getElem? (i := 87) (by decide +kernel), by decide +kernel⟩
theorem qk_88 : Cond.classLink "QuakeRehearsalLaw" 8 "QuakeRehearsal" ∈ lw_gd := List.mem_filter.mpr ⟨List.mem_of_getElem? (i := 88) (by decide +kernel), by decide +kernel⟩
theorem qk_90 : Cond.methodLink "QuakeRehearsalLaw" 122 yX5_init ∈ lw_gd := List.mem_filter.mpr ⟨List.mem_of_getElem? (i := 90) (by decide +kernel), by decide +kernel⟩
theorem qk_91 : Cond.instanceMethod yX5_init ∈ lw_gd := List.mem_filter.mpr ⟨List.mem_of_getElem? (i := 91) (by decide +kernel), by decide +kernel⟩
theorem qk_92 : Cond.code yX5_init cX5_init 1 (none) ∈ lw_gd := List.mem_filter.mpr ⟨List.mem_of_getElem? (i := 92) (by decide +kernel), by decide +kernel⟩
theorem qk_93 : Cond.methodLink RX5 1 ⟨"java/lang/Object", "<init>", "()V"⟩ ∈ lw_gd := List.mem_filter.mpr ⟨List.mem_of_getElem? (i := 93) (by decide +kernel), by decide +kernel⟩
theorem qk_94 : Cond.instanceMethod ⟨"java/lang/Object", "<init>", "()V"⟩ ∈ lw_gd := List.mem_filter.mpr ⟨List.mem_of_getElem? (i := 94) (by decide +kernel), by decide +kernel⟩
theorem qk_96 : Cond.classLink RX5 7 "QuakeRehearsal$Hall" ∈ lw_gd := List.mem_filter.mpr ⟨List.mem_of_getElem? (i := 96) (by decide +kernel), by decide +kernel⟩
theorem qk_98 : Cond.methodLink RX5 9 yX0_init ∈ lw_gd := List.mem_filter.mpr ⟨List.mem_of_getElem? (i := 98) (by decide +kernel), by decide +kernel⟩
theorem qk_99 : Cond.instanceMethod yX0_init ∈ lw_gd := List.mem_filter.mpr ⟨List.mem_of_getElem? (i := 99) (by decide +kernel), by decide +kernel⟩
theorem qk_100 : Cond.code yX0_init cX0_init 2 (none) ∈ lw_gd := List.mem_filter.mpr ⟨List.mem_of_getElem? (i := 100) (by decide +kernel), by decide +kernel⟩
theorem qk_101 : Cond.methodLink RX0 3 ⟨"java/lang/Object", "<init>", "()V"⟩ ∈ lw_gd := List.mem_filter.mpr ⟨List.mem_of_getElem? (i := 101) (by decide +kernel), by decide +kernel⟩
theorem qk_102 : Cond.classLink RX0 9 "QuakeRehearsal$Prop" ∈ lw_gd := List.mem_filter.mpr ⟨List.mem_of_getElem? (i := 102) (by decide +kernel), by decide +kernel⟩
theorem qk_106 : Cond.instanceMethod yX3_init ∈ lw_gd := List.mem_filter.mpr ⟨List.mem_of_getElem? (i := 106) (by decide +kernel), by decide +kernel⟩
theorem qk_107 : Cond.code yX3_init cX3_init 1 (none) ∈ lw_gd := List.mem_filter.mpr ⟨List.mem_of_getElem? (i := 107) (by decide +kernel), by decide +kernel⟩
theorem qk_108 : Cond.methodLink RX3 3 ⟨"java/lang/Object", "<init>", "()V"⟩ ∈ lw_gd := List.mem_filter.mpr ⟨List.mem_of_getElem? (i := 108) (by decide +kernel), by decide +kernel⟩
theorem qk_109 : Cond.fieldLink RX3 9 "QuakeRehearsal$Prop" "kind" "I" ∈ lw_gd := List.mem_filter.mpr ⟨List.mem_of_getElem? (i := 109) (by decide +kernel), by decide +kernel⟩
theorem qk_110 : Cond.fieldLink RX2 23 "QuakeRehearsal$Prop" "kind" "I" ∈ lw_gd := List.mem_filter.mpr ⟨List.mem_of_getElem? (i := 110) (by decide +kernel), by decide +kernel⟩
theorem qk_111 : Cond.fieldLink RX0 70 "QuakeRehearsal$Prop" "kind" "I" ∈ lw_gd := List.mem_filter.mpr ⟨List.mem_of_getElem? (i := 111) (by decide +kernel), by decide +kernel⟩
theorem qk_112 : Cond.fieldLink RX5 94 "QuakeRehearsal$Prop" "kind" "I" ∈ lw_gd := List.mem_filter.mpr ⟨List.mem_of_getElem? (i := 112) (by decide +kernel), by decide +kernel⟩
theorem qk_113 : Cond.fieldLink RX3 15 "QuakeRehearsal$Prop" "floor" "I" ∈ lw_gd := List.mem_filter.mpr ⟨List.mem_of_getElem? (i := 113) (by decide +kernel), by decide +kernel⟩
theorem qk_114 : Cond.fieldLink RX2 28 "QuakeRehearsal$Prop" "floor" "I" ∈ lw_gd := List.mem_filter.mpr ⟨List.mem_of_getElem? (i := 114) (by decide +kernel), by decide +kernel⟩
theorem qk_115 : Cond.fieldLink RX0 73 "QuakeRehearsal$Prop" "floor" "I" ∈ lw_gd := List.mem_filter.mpr ⟨List.mem_of_getElem? (i := 115) (by decide +kernel), by decide +kernel⟩
theorem qk_116 : Cond.fieldLink RX5 99 "QuakeRehearsal$Prop" "floor" "I" ∈ lw_gd := List.mem_filter.mpr ⟨List.mem_of_getElem? (i := 116) (by decide +kernel), by decide +kernel⟩
theorem qk_117 : Cond.fieldLink RX3 18 "QuakeRehearsal$Prop" "measure" "I" ∈ lw_gd := List.mem_filter.mpr ⟨List.mem_of_getElem? (i := 117) (by decide +kernel), by decide +kernel⟩
theorem qk_118 : Cond.fieldLink RX2 35 "QuakeRehearsal$Prop" "measure" "I" ∈ lw_gd := List.mem_filter.mpr ⟨List.mem_of_getElem? (i := 118) (by decide +kernel), by decide +kernel⟩
theorem qk_119 : Cond.fieldLink RX0 80 "QuakeRehearsal$Prop" "measure" "I" ∈ lw_gd := List.mem_filter.mpr ⟨List.mem_of_getElem? (i := 119) (by decide +kernel), by decide +kernel⟩
theorem qk_120 : Cond.fieldLink RX5 102 "QuakeRehearsal$Prop" "measure" "I" ∈ lw_gd := List.mem_filter.mpr ⟨List.mem_of_getElem? (i := 120) (by decide +kernel), by decide +kernel⟩
theorem qk_121 : Cond.fieldLink RX3 21 "QuakeRehearsal$Prop" "damage" "I" ∈ lw_gd := List.mem_filter.mpr ⟨List.mem_of_getElem? (i := 121) (by decide +kernel), by decide +kernel⟩
theorem qk_122 : Cond.fieldLink RX2 38 "QuakeRehearsal$Prop" "damage" "I" ∈ lw_gd := List.mem_filter.mpr ⟨List.mem_of_getElem? (i := 122) (by decide +kernel), by decide +kernel⟩
theorem qk_123 : Cond.fieldLink RX5 105 "QuakeRehearsal$Prop" "damage" "I" ∈ lw_gd := List.mem_filter.mpr ⟨List.mem_of_getElem? (i := 123) (by decide +kernel), by decide +kernel⟩
theorem qk_124 : Cond.fieldLink RX0 138 "QuakeRehearsal$Prop" "damage" "I" ∈ lw_gd := List.mem_filter.mpr ⟨List.mem_of_getElem? (i := 124) (by decide +kernel), by decide +kernel⟩
theorem qk_125 : Cond.fieldLink RX3 24 "QuakeRehearsal$Prop" "broken" "Z" ∈ lw_gd := List.mem_filter.mpr ⟨List.mem_of_getElem? (i := 125) (by decide +kernel), by decide +kernel⟩
theorem qk_126 : Cond.fieldLink RX2 44 "QuakeRehearsal$Prop" "broken" "Z" ∈ lw_gd := List.mem_filter.mpr ⟨List.mem_of_getElem? (i := 126) (by decide +kernel), by decide +kernel⟩
theorem qk_127 : Cond.fieldLink RX0 76 "QuakeRehearsal$Prop" "broken" "Z" ∈ lw_gd := List.mem_filter.mpr ⟨List.mem_of_getElem? (i := 127) (by decide +kernel), by decide +kernel⟩
theorem qk_128 : Cond.fieldLink RX5 108 "QuakeRehearsal$Prop" "broken" "Z" ∈ lw_gd := List.mem_filter.mpr ⟨List.mem_of_getElem? (i := 128) (by decide +kernel), by decide +kernel⟩
theorem qk_129 : Cond.fieldLink RX3 28 "QuakeRehearsal$Prop" "cued" "I" ∈ lw_gd := List.mem_filter.mpr ⟨List.mem_of_getElem? (i := 129) (by decide +kernel), by decide +kernel⟩
theorem qk_130 : Cond.fieldLink RX2 41 "QuakeRehearsal$Prop" "cued" "I" ∈ lw_gd := List.mem_filter.mpr ⟨List.mem_of_getElem? (i := 130) (by decide +kernel), by decide +kernel⟩
theorem qk_131 : Cond.fieldLink RX5 111 "QuakeRehearsal$Prop" "cued" "I" ∈ lw_gd := List.mem_filter.mpr ⟨List.mem_of_getElem? (i := 131) (by decide +kernel), by decide +kernel⟩
theorem qk_132 : Cond.fieldLink RX3 31 "QuakeRehearsal$Prop" "tally" "I" ∈ lw_gd := List.mem_filter.mpr ⟨List.mem_of_getElem? (i := 132) (by decide +kernel), by decide +kernel⟩
theorem qk_133 : Cond.fieldLink RX5 114 "QuakeRehearsal$Prop" "tally" "I" ∈ lw_gd := List.mem_filter.mpr ⟨List.mem_of_getElem? (i := 133) (by decide +kernel), by decide +kernel⟩
theorem qk_149 : Cond.fieldLink RX0 11 "QuakeRehearsal$Hall" "props" "[LQuakeRehearsal$Prop;" ∈ lw_gd := List.mem_filter.mpr ⟨List.mem_of_getElem? (i := 149) (by decide +kernel), by decide +kernel⟩
theorem qk_150 : Cond.fieldLink RX0 18 "QuakeRehearsal$Hall" "nobody" "LQuakeRehearsal$Prop;" ∈ lw_gd := List.mem_filter.mpr ⟨List.mem_of_getElem? (i := 150) (by decide +kernel), by decide +kernel⟩
theorem qk_151 : Cond.fieldLink RX0 22 "QuakeRehearsal$Hall" "propCount" "I" ∈ lw_gd := List.mem_filter.mpr ⟨List.mem_of_getElem? (i := 151) (by decide +kernel), by decide +kernel⟩
theorem qk_152 : Cond.fieldLink RX5 250 "QuakeRehearsal$Hall" "propCount" "I" ∈ lw_gd := List.mem_filter.mpr ⟨List.mem_of_getElem? (i := 152) (by decide +kernel), by decide +kernel⟩
theorem qk_153 : Cond.fieldLink RX0 26 "QuakeRehearsal$Hall" "planned" "[I" ∈ lw_gd := List.mem_filter.mpr ⟨List.mem_of_getElem? (i := 153) (by decide +kernel), by decide +kernel⟩
theorem qk_154 : Cond.fieldLink RX0 30 "QuakeRehearsal$Hall" "plannedCount" "I" ∈ lw_gd := List.mem_filter.mpr ⟨List.mem_of_getElem? (i := 154) (by decide +kernel), by decide +kernel⟩
theorem qk_155 : Cond.fieldLink RX2 48 "QuakeRehearsal$Hall" "plannedCount" "I" ∈ lw_gd := List.mem_filter.mpr ⟨List.mem_of_getElem? (i := 155) (by decide +kernel), by decide +kernel⟩
theorem qk_156 : Cond.fieldLink RX5 119 "QuakeRehearsal$Hall" "plannedCount" "I" ∈ lw_gd := List.mem_filter.mpr ⟨List.mem_of_getElem? (i := 156) (by decide +kernel), by decide +kernel⟩
theorem qk_157 : Cond.fieldLink RX0 33 "QuakeRehearsal$Hall" "strength" "I" ∈ lw_gd := List.mem_filter.mpr ⟨List.mem_of_getElem? (i := 157) (by decide +kernel), by decide +kernel⟩
theorem qk_158 : Cond.fieldLink RX5 172 "QuakeRehearsal$Hall" "strength" "I" ∈ lw_gd := List.mem_filter.mpr ⟨List.mem_of_getElem? (i := 158) (by decide +kernel), by decide +kernel⟩
theorem qk_159 : Cond.fieldLink RX0 36 "QuakeRehearsal$Hall" "shocks" "I" ∈ lw_gd := List.mem_filter.mpr ⟨List.mem_of_getElem? (i := 159) (by decide +kernel), by decide +kernel⟩
theorem qk_160 : Cond.fieldLink RX5 259 "QuakeRehearsal$Hall" "shocks" "I" ∈ lw_gd := List.mem_filter.mpr ⟨List.mem_of_getElem? (i := 160) (by decide +kernel), by decide +kernel⟩
theorem qk_161 : Cond.fieldLink RX0 39 "QuakeRehearsal$Hall" "encores" "I" ∈ lw_gd := List.mem_filter.mpr ⟨List.mem_of_getElem? (i := 161) (by decide +kernel), by decide +kernel⟩
theorem qk_162 : Cond.fieldLink RX5 262 "QuakeRehearsal$Hall" "encores" "I" ∈ lw_gd := List.mem_filter.mpr ⟨List.mem_of_getElem? (i := 162) (by decide +kernel), by decide +kernel⟩
theorem qk_163 : Cond.fieldLink RX0 42 "QuakeRehearsal$Hall" "marks" "I" ∈ lw_gd := List.mem_filter.mpr ⟨List.mem_of_getElem? (i := 163) (by decide +kernel), by decide +kernel⟩
theorem qk_164 : Cond.fieldLink RX5 265 "QuakeRehearsal$Hall" "marks" "I" ∈ lw_gd := List.mem_filter.mpr ⟨List.mem_of_getElem? (i := 164) (by decide +kernel), by decide +kernel⟩
theorem qk_165 : Cond.fieldLink RX0 45 "QuakeRehearsal$Hall" "breakages" "I" ∈ lw_gd := List.mem_filter.mpr ⟨List.mem_of_getElem? (i := 165) (by decide +kernel), by decide +kernel⟩
theorem qk_166 : Cond.fieldLink RX5 167 "QuakeRehearsal$Hall" "breakages" "I" ∈ lw_gd := List.mem_filter.mpr ⟨List.mem_of_getElem? (i := 166) (by decide +kernel), by decide +kernel⟩
theorem qk_167 : Cond.fieldLink RX0 48 "QuakeRehearsal$Hall" "hasCat" "[Z" ∈ lw_gd := List.mem_filter.mpr ⟨List.mem_of_getElem? (i := 167) (by decide +kernel), by decide +kernel⟩
theorem qk_168 : Cond.fieldLink RX0 52 "QuakeRehearsal$Hall" "reach" "[I" ∈ lw_gd := List.mem_filter.mpr ⟨List.mem_of_getElem? (i := 168) (by decide +kernel), by decide +kernel⟩
theorem qk_169 : Cond.fieldLink RX0 55 "QuakeRehearsal$Hall" "hasBreakage" "[Z" ∈ lw_gd := List.mem_filter.mpr ⟨List.mem_of_getElem? (i := 169) (by decide +kernel), by decide +kernel⟩
theorem qk_199 : Cond.classLink RX5 22 "QuakeRehearsal$History" ∈ lw_gd := List.mem_filter.mpr ⟨List.mem_of_getElem? (i := 199) (by decide +kernel), by decide +kernel⟩
theorem qk_201 : Cond.methodLink RX5 24 yX1_init ∈ lw_gd := List.mem_filter.mpr ⟨List.mem_of_getElem? (i := 201) (by decide +kernel), by decide +kernel⟩
theorem qk_202 : Cond.instanceMethod yX1_init ∈ lw_gd := List.mem_filter.mpr ⟨List.mem_of_getElem? (i := 202) (by decide +kernel), by decide +kernel⟩
theorem qk_203 : Cond.code yX1_init cX1_init 2 (none) ∈ lw_gd := List.mem_filter.mpr ⟨List.mem_of_getElem? (i := 203) (by decide +kernel), by decide +kernel⟩
theorem qk_204 : Cond.methodLink RX1 3 ⟨"java/lang/Object", "<init>", "()V"⟩ ∈ lw_gd := List.mem_filter.mpr ⟨List.mem_of_getElem? (i := 204) (by decide +kernel), by decide +kernel⟩
theorem qk_205 : Cond.classLink RX1 9 "QuakeRehearsal$Hall" ∈ lw_gd := List.mem_filter.mpr ⟨List.mem_of_getElem? (i := 205) (by decide +kernel), by decide +kernel⟩
theorem qk_207 : Cond.methodLink RX1 24 yX0_init ∈ lw_gd := List.mem_filter.mpr ⟨List.mem_of_getElem? (i := 207) (by decide +kernel), by decide +kernel⟩
theorem qk_208 : Cond.fieldLink RX1 11 "QuakeRehearsal$History" "kept" "[LQuakeRehearsal$Hall;" ∈ lw_gd := List.mem_filter.mpr ⟨List.mem_of_getElem? (i := 208) (by decide +kernel), by decide +kernel⟩
theorem qk_209 : Cond.fieldLink RX1 17 "QuakeRehearsal$History" "next" "I" ∈ lw_gd := List.mem_filter.mpr ⟨List.mem_of_getElem? (i := 209) (by decide +kernel), by decide +kernel⟩
theorem qk_210 : Cond.fieldLink RX1 21 "QuakeRehearsal$History" "depth" "I" ∈ lw_gd := List.mem_filter.mpr ⟨List.mem_of_getElem? (i := 210) (by decide +kernel), by decide +kernel⟩
theorem qk_211 : Cond.fieldLink RX5 268 "QuakeRehearsal$History" "depth" "I" ∈ lw_gd := List.mem_filter.mpr ⟨List.mem_of_getElem? (i := 211) (by decide +kernel), by decide +kernel⟩
theorem qk_219 : Cond.classLink RX5 29 "QuakeRehearsal$Script" ∈ lw_gd := List.mem_filter.mpr ⟨List.mem_of_getElem? (i := 219) (by decide +kernel), by decide +kernel⟩
theorem qk_222 : Cond.instanceMethod yX4_init ∈ lw_gd := List.mem_filter.mpr ⟨List.mem_of_getElem? (i := 222) (by decide +kernel), by decide +kernel⟩
theorem qk_223 : Cond.code yX4_init cX4_init 1 (none) ∈ lw_gd := List.mem_filter.mpr ⟨List.mem_of_getElem? (i := 223) (by decide +kernel), by decide +kernel⟩
theorem qk_224 : Cond.methodLink RX4 3 ⟨"java/lang/Object", "<init>", "()V"⟩ ∈ lw_gd := List.mem_filter.mpr ⟨List.mem_of_getElem? (i := 224) (by decide +kernel), by decide +kernel⟩
theorem qk_225 : Cond.fieldLink RX4 9 "QuakeRehearsal$Script" "signs" "[C" ∈ lw_gd := List.mem_filter.mpr ⟨List.mem_of_getElem? (i := 225) (by decide +kernel), by decide +kernel⟩
theorem qk_226 : Cond.fieldLink RX4 15 "QuakeRehearsal$Script" "length" "I" ∈ lw_gd := List.mem_filter.mpr ⟨List.mem_of_getElem? (i := 226) (by decide +kernel), by decide +kernel⟩
theorem qk_227 : Cond.fieldLink RX5 205 "QuakeRehearsal$Script" "length" "I" ∈ lw_gd := List.mem_filter.mpr ⟨List.mem_of_getElem? (i := 227) (by decide +kernel), by decide +kernel⟩
theorem qk_228 : Cond.fieldLink RX4 19 "QuakeRehearsal$Script" "words" "[I" ∈ lw_gd := List.mem_filter.mpr ⟨List.mem_of_getElem? (i := 228) (by decide +kernel), by decide +kernel⟩
theorem qk_229 : Cond.fieldLink RX4 23 "QuakeRehearsal$Script" "firsts" "[I" ∈ lw_gd := List.mem_filter.mpr ⟨List.mem_of_getElem? (i := 229) (by decide +kernel), by decide +kernel⟩
theorem qk_230 : Cond.fieldLink RX4 26 "QuakeRehearsal$Script" "seconds" "[I" ∈ lw_gd := List.mem_filter.mpr ⟨List.mem_of_getElem? (i := 230) (by decide +kernel), by decide +kernel⟩
theorem qk_231 : Cond.fieldLink RX4 29 "QuakeRehearsal$Script" "orderCount" "I" ∈ lw_gd := List.mem_filter.mpr ⟨List.mem_of_getElem? (i := 231) (by decide +kernel), by decide +kernel⟩
theorem qk_232 : Cond.fieldLink RX5 223 "QuakeRehearsal$Script" "orderCount" "I" ∈ lw_gd := List.mem_filter.mpr ⟨List.mem_of_getElem? (i := 232) (by decide +kernel), by decide +kernel⟩
theorem qk_233 : Cond.fieldLink RX4 32 "QuakeRehearsal$Script" "offset" "I" ∈ lw_gd := List.mem_filter.mpr ⟨List.mem_of_getElem? (i := 233) (by decide +kernel), by decide +kernel⟩
theorem qk_250 : Cond.classLink RX5 36 "QuakeRehearsal$Line" ∈ lw_gd := List.mem_filter.mpr ⟨List.mem_of_getElem? (i := 250) (by decide +kernel), by decide +kernel⟩
theorem qk_253 : Cond.instanceMethod yX2_init ∈ lw_gd := List.mem_filter.mpr ⟨List.mem_of_getElem? (i := 253) (by decide +kernel), by decide +kernel⟩
theorem qk_254 : Cond.code yX2_init cX2_init 1 (none) ∈ lw_gd := List.mem_filter.mpr ⟨List.mem_of_getElem? (i := 254) (by decide +kernel), by decide +kernel⟩
theorem qk_255 : Cond.methodLink RX2 3 ⟨"java/lang/Object", "<init>", "()V"⟩ ∈ lw_gd := List.mem_filter.mpr ⟨List.mem_of_getElem? (i := 255) (by decide +kernel), by decide +kernel⟩
theorem qk_256 : Cond.fieldLink RX2 9 "QuakeRehearsal$Line" "signs" "[C" ∈ lw_gd := List.mem_filter.mpr ⟨List.mem_of_getElem? (i := 256) (by decide +kernel), by decide +kernel⟩
theorem qk_257 : Cond.fieldLink RX2 15 "QuakeRehearsal$Line" "length" "I" ∈ lw_gd := List.mem_filter.mpr ⟨List.mem_of_getElem? (i := 257) (by decide +kernel), by decide +kernel⟩
theorem qk_258 : Cond.fieldLink RX5 193 "QuakeRehearsal$Line" "length" "I" ∈ lw_gd := List.mem_filter.mpr ⟨List.mem_of_getElem? (i := 258) (by decide +kernel), by decide +kernel⟩
theorem qk_264 : Cond.fieldLink RX5 10 "QuakeRehearsal" "hall" "LQuakeRehearsal$Hall;" ∈ lw_gd := List.mem_filter.mpr ⟨List.mem_of_getElem? (i := 264) (by decide +kernel), by decide +kernel⟩
theorem qk_265 : Cond.fieldLink RX5 16 "QuakeRehearsal" "thought" "LQuakeRehearsal$Hall;" ∈ lw_gd := List.mem_filter.mpr ⟨List.mem_of_getElem? (i := 265) (by decide +kernel), by decide +kernel⟩
theorem qk_266 : Cond.fieldLink RX5 19 "QuakeRehearsal" "snapshot" "LQuakeRehearsal$Hall;" ∈ lw_gd := List.mem_filter.mpr ⟨List.mem_of_getElem? (i := 266) (by decide +kernel), by decide +kernel⟩
theorem qk_267 : Cond.fieldLink RX5 25 "QuakeRehearsal" "history" "LQuakeRehearsal$History;" ∈ lw_gd := List.mem_filter.mpr ⟨List.mem_of_getElem? (i := 267) (by decide +kernel), by decide +kernel⟩
theorem qk_268 : Cond.fieldLink RX5 32 "QuakeRehearsal" "script" "LQuakeRehearsal$Script;" ∈ lw_gd := List.mem_filter.mpr ⟨List.mem_of_getElem? (i := 268) (by decide +kernel), by decide +kernel⟩
theorem qk_269 : Cond.fieldLink RX5 39 "QuakeRehearsal" "written" "LQuakeRehearsal$Line;" ∈ lw_gd := List.mem_filter.mpr ⟨List.mem_of_getElem? (i := 269) (by decide +kernel), by decide +kernel⟩
theorem qk_270 : Cond.fieldLink RX5 43 "QuakeRehearsal" "hasSnapshot" "Z" ∈ lw_gd := List.mem_filter.mpr ⟨List.mem_of_getElem? (i := 270) (by decide +kernel), by decide +kernel⟩
theorem qk_271 : Cond.fieldLink RX5 47 "QuakeRehearsal" "errorPlace" "I" ∈ lw_gd := List.mem_filter.mpr ⟨List.mem_of_getElem? (i := 271) (by decide +kernel), by decide +kernel⟩
theorem qk_272 : Cond.fieldLink RX5 51 "QuakeRehearsal" "reason" "I" ∈ lw_gd := List.mem_filter.mpr ⟨List.mem_of_getElem? (i := 272) (by decide +kernel), by decide +kernel⟩
theorem qk_273 : Cond.fieldLink RX5 54 "QuakeRehearsal" "detail" "I" ∈ lw_gd := List.mem_filter.mpr ⟨List.mem_of_getElem? (i := 273) (by decide +kernel), by decide +kernel⟩
theorem qk_274 : Cond.fieldLink RX5 57 "QuakeRehearsal" "answer" "I" ∈ lw_gd := List.mem_filter.mpr ⟨List.mem_of_getElem? (i := 274) (by decide +kernel), by decide +kernel⟩
theorem qk_298 : Cond.methodLink "QuakeRehearsalLaw" 151 yX5_shock ∈ lw_gd := List.mem_filter.mpr ⟨List.mem_of_getElem? (i := 298) (by decide +kernel), by decide +kernel⟩
theorem qk_299 : Cond.instanceMethod yX5_shock ∈ lw_gd := List.mem_filter.mpr ⟨List.mem_of_getElem? (i := 299) (by decide +kernel), by decide +kernel⟩
theorem qk_300 : Cond.selects RX5 yX5_shock yX5_shock ∈ lw_gd := List.mem_filter.mpr ⟨List.mem_of_getElem? (i := 300) (by decide +kernel), by decide +kernel⟩
theorem qk_301 : Cond.code yX5_shock cX5_shock 1 (some .int) ∈ lw_gd := List.mem_filter.mpr ⟨List.mem_of_getElem? (i := 301) (by decide +kernel), by decide +kernel⟩
theorem qk_302 : Cond.methodLink RX5 64 yX5_change ∈ lw_gd := List.mem_filter.mpr ⟨List.mem_of_getElem? (i := 302) (by decide +kernel), by decide +kernel⟩
theorem qk_304 : Cond.instanceMethod yX5_change ∈ lw_gd := List.mem_filter.mpr ⟨List.mem_of_getElem? (i := 304) (by decide +kernel), by decide +kernel⟩
theorem qk_305 : Cond.code yX5_change cX5_change 5 (some .int) ∈ lw_gd := List.mem_filter.mpr ⟨List.mem_of_getElem? (i := 305) (by decide +kernel), by decide +kernel⟩
theorem qk_306 : Cond.methodLink RX5 220 yX1_note ∈ lw_gd := List.mem_filter.mpr ⟨List.mem_of_getElem? (i := 306) (by decide +kernel), by decide +kernel⟩
theorem qk_307 : Cond.instanceMethod yX1_note ∈ lw_gd := List.mem_filter.mpr ⟨List.mem_of_getElem? (i := 307) (by decide +kernel), by decide +kernel⟩
theorem qk_308 : Cond.selects RX1 yX1_note yX1_note ∈ lw_gd := List.mem_filter.mpr ⟨List.mem_of_getElem? (i := 308) (by decide +kernel), by decide +kernel⟩
theorem qk_309 : Cond.code yX1_note cX1_note 3 (none) ∈ lw_gd := List.mem_filter.mpr ⟨List.mem_of_getElem? (i := 309) (by decide +kernel), by decide +kernel⟩
theorem qk_310 : Cond.methodLink RX1 25 yX0_copyFrom ∈ lw_gd := List.mem_filter.mpr ⟨List.mem_of_getElem? (i := 310) (by decide +kernel), by decide +kernel⟩
theorem qk_311 : Cond.instanceMethod yX0_copyFrom ∈ lw_gd := List.mem_filter.mpr ⟨List.mem_of_getElem? (i := 311) (by decide +kernel), by decide +kernel⟩
theorem qk_312 : Cond.selects RX0 yX0_copyFrom yX0_copyFrom ∈ lw_gd := List.mem_filter.mpr ⟨List.mem_of_getElem? (i := 312) (by decide +kernel), by decide +kernel⟩
theorem qk_313 : Cond.code yX0_copyFrom cX0_copyFrom 3 (none) ∈ lw_gd := List.mem_filter.mpr ⟨List.mem_of_getElem? (i := 313) (by decide +kernel), by decide +kernel⟩
theorem qk_314 : Cond.methodLink RX0 58 yX0_propAt ∈ lw_gd := List.mem_filter.mpr ⟨List.mem_of_getElem? (i := 314) (by decide +kernel), by decide +kernel⟩
theorem qk_315 : Cond.instanceMethod yX0_propAt ∈ lw_gd := List.mem_filter.mpr ⟨List.mem_of_getElem? (i := 315) (by decide +kernel), by decide +kernel⟩
theorem qk_316 : Cond.selects RX0 yX0_propAt yX0_propAt ∈ lw_gd := List.mem_filter.mpr ⟨List.mem_of_getElem? (i := 316) (by decide +kernel), by decide +kernel⟩
theorem qk_317 : Cond.code yX0_propAt cX0_propAt 3 (some (.object "QuakeRehearsal$Prop")) ∈ lw_gd := List.mem_filter.mpr ⟨List.mem_of_getElem? (i := 317) (by decide +kernel), by decide +kernel⟩
theorem qk_318 : Cond.methodLink RX0 62 yX3_copyFrom ∈ lw_gd := List.mem_filter.mpr ⟨List.mem_of_getElem? (i := 318) (by decide +kernel), by decide +kernel⟩
theorem qk_319 : Cond.instanceMethod yX3_copyFrom ∈ lw_gd := List.mem_filter.mpr ⟨List.mem_of_getElem? (i := 319) (by decide +kernel), by decide +kernel⟩
theorem qk_320 : Cond.selects RX3 yX3_copyFrom yX3_copyFrom ∈ lw_gd := List.mem_filter.mpr ⟨List.mem_of_getElem? (i := 320) (by decide +kernel), by decide +kernel⟩
theorem qk_321 : Cond.code yX3_copyFrom cX3_copyFrom 2 (none) ∈ lw_gd := List.mem_filter.mpr ⟨List.mem_of_getElem? (i := 321) (by decide +kernel), by decide +kernel⟩
theorem qk_322 : Cond.methodLink RX5 235 yX5_tryOrder ∈ lw_gd := List.mem_filter.mpr ⟨List.mem_of_getElem? (i := 322) (by decide +kernel), by decide +kernel⟩
theorem qk_324 : Cond.instanceMethod yX5_tryOrder ∈ lw_gd := List.mem_filter.mpr ⟨List.mem_of_getElem? (i := 324) (by decide +kernel), by decide +kernel⟩
theorem qk_325 : Cond.code yX5_tryOrder cX5_tryOrder 4 (some .int) ∈ lw_gd := List.mem_filter.mpr ⟨List.mem_of_getElem? (i := 325) (by decide +kernel), by decide +kernel⟩
theorem qk_326 : Cond.methodLink RX5 311 yX5_tryPlacing ∈ lw_gd := List.mem_filter.mpr ⟨List.mem_of_getElem? (i := 326) (by decide +kernel), by decide +kernel⟩
theorem qk_328 : Cond.instanceMethod yX5_tryPlacing ∈ lw_gd := List.mem_filter.mpr ⟨List.mem_of_getElem? (i := 328) (by decide +kernel), by decide +kernel⟩
theorem qk_329 : Cond.code yX5_tryPlacing cX5_tryPlacing 5 (some .int) ∈ lw_gd := List.mem_filter.mpr ⟨List.mem_of_getElem? (i := 329) (by decide +kernel), by decide +kernel⟩
theorem qk_330 : Cond.methodLink RX5 135 yX5_isFloor ∈ lw_gd := List.mem_filter.mpr ⟨List.mem_of_getElem? (i := 330) (by decide +kernel), by decide +kernel⟩
theorem qk_331 : Cond.static yX5_isFloor ∈ lw_gd := List.mem_filter.mpr ⟨List.mem_of_getElem? (i := 331) (by decide +kernel), by decide +kernel⟩
theorem qk_332 : Cond.code yX5_isFloor cX5_isFloor 1 (some .boolean) ∈ lw_gd := List.mem_filter.mpr ⟨List.mem_of_getElem? (i := 332) (by decide +kernel), by decide +kernel⟩
theorem qk_333 : Cond.methodLink RX5 329 yX5_refuse ∈ lw_gd := List.mem_filter.mpr ⟨List.mem_of_getElem? (i := 333) (by decide +kernel), by decide +kernel⟩
theorem qk_335 : Cond.instanceMethod yX5_refuse ∈ lw_gd := List.mem_filter.mpr ⟨List.mem_of_getElem? (i := 335) (by decide +kernel), by decide +kernel⟩
theorem qk_336 : Cond.code yX5_refuse cX5_refuse 3 (some .int) ∈ lw_gd := List.mem_filter.mpr ⟨List.mem_of_getElem? (i := 336) (by decide +kernel), by decide +kernel⟩
theorem qk_337 : Cond.methodLink RX5 186 yX0_countOn ∈ lw_gd := List.mem_filter.mpr ⟨List.mem_of_getElem? (i := 337) (by decide +kernel), by decide +kernel⟩
theorem qk_338 : Cond.instanceMethod yX0_countOn ∈ lw_gd := List.mem_filter.mpr ⟨List.mem_of_getElem? (i := 338) (by decide +kernel), by decide +kernel⟩
theorem qk_339 : Cond.selects RX0 yX0_countOn yX0_countOn ∈ lw_gd := List.mem_filter.mpr ⟨List.mem_of_getElem? (i := 339) (by decide +kernel), by decide +kernel⟩
theorem qk_340 : Cond.code yX0_countOn cX0_countOn 6 (some .int) ∈ lw_gd := List.mem_filter.mpr ⟨List.mem_of_getElem? (i := 340) (by decide +kernel), by decide +kernel⟩
theorem qk_341 : Cond.methodLink RX5 335 yX0_placeProp ∈ lw_gd := List.mem_filter.mpr ⟨List.mem_of_getElem? (i := 341) (by decide +kernel), by decide +kernel⟩
theorem qk_342 : Cond.instanceMethod yX0_placeProp ∈ lw_gd := List.mem_filter.mpr ⟨List.mem_of_getElem? (i := 342) (by decide +kernel), by decide +kernel⟩
theorem qk_343 : Cond.selects RX0 yX0_placeProp yX0_placeProp ∈ lw_gd := List.mem_filter.mpr ⟨List.mem_of_getElem? (i := 343) (by decide +kernel), by decide +kernel⟩
theorem qk_344 : Cond.code yX0_placeProp cX0_placeProp 5 (some .int) ∈ lw_gd := List.mem_filter.mpr ⟨List.mem_of_getElem? (i := 344) (by decide +kernel), by decide +kernel⟩
theorem qk_345 : Cond.methodLink RX0 66 yX3_begin ∈ lw_gd := List.mem_filter.mpr ⟨List.mem_of_getElem? (i := 345) (by decide +kernel), by decide +kernel⟩
theorem qk_346 : Cond.instanceMethod yX3_begin ∈ lw_gd := List.mem_filter.mpr ⟨List.mem_of_getElem? (i := 346) (by decide +kernel), by decide +kernel⟩
theorem qk_347 : Cond.selects RX3 yX3_begin yX3_begin ∈ lw_gd := List.mem_filter.mpr ⟨List.mem_of_getElem? (i := 347) (by decide +kernel), by decide +kernel⟩
theorem qk_348 : Cond.code yX3_begin cX3_begin 4 (none) ∈ lw_gd := List.mem_filter.mpr ⟨List.mem_of_getElem? (i := 348) (by decide +kernel), by decide +kernel⟩
theorem qk_349 : Cond.methodLink RX5 323 yX5_answered ∈ lw_gd := List.mem_filter.mpr ⟨List.mem_of_getElem? (i := 349) (by decide +kernel), by decide +kernel⟩
theorem qk_351 : Cond.instanceMethod yX5_answered ∈ lw_gd := List.mem_filter.mpr ⟨List.mem_of_getElem? (i := 351) (by decide +kernel), by decide +kernel⟩
theorem qk_352 : Cond.code yX5_answered cX5_answered 2 (some .int) ∈ lw_gd := List.mem_filter.mpr ⟨List.mem_of_getElem? (i := 352) (by decide +kernel), by decide +kernel⟩
theorem qk_353 : Cond.methodLink RX5 314 yX5_tryTaking ∈ lw_gd := List.mem_filter.mpr ⟨List.mem_of_getElem? (i := 353) (by decide +kernel), by decide +kernel⟩
theorem qk_355 : Cond.instanceMethod yX5_tryTaking ∈ lw_gd := List.mem_filter.mpr ⟨List.mem_of_getElem? (i := 355) (by decide +kernel), by decide +kernel⟩
theorem qk_356 : Cond.code yX5_tryTaking cX5_tryTaking 2 (some .int) ∈ lw_gd := List.mem_filter.mpr ⟨List.mem_of_getElem? (i := 356) (by decide +kernel), by decide +kernel⟩
theorem qk_357 : Cond.methodLink RX5 338 yX0_removeProp ∈ lw_gd := List.mem_filter.mpr ⟨List.mem_of_getElem? (i := 357) (by decide +kernel), by decide +kernel⟩
theorem qk_358 : Cond.instanceMethod yX0_removeProp ∈ lw_gd := List.mem_filter.mpr ⟨List.mem_of_getElem? (i := 358) (by decide +kernel), by decide +kernel⟩
theorem qk_359 : Cond.selects RX0 yX0_removeProp yX0_removeProp ∈ lw_gd := List.mem_filter.mpr ⟨List.mem_of_getElem? (i := 359) (by decide +kernel), by decide +kernel⟩
theorem qk_360 : Cond.code yX0_removeProp cX0_removeProp 3 (some .int) ∈ lw_gd := List.mem_filter.mpr ⟨List.mem_of_getElem? (i := 360) (by decide +kernel), by decide +kernel⟩
theorem qk_361 : Cond.methodLink RX5 317 yX5_tryCueing ∈ lw_gd := List.mem_filter.mpr ⟨List.mem_of_getElem? (i := 361) (by decide +kernel), by decide +kernel⟩
theorem qk_363 : Cond.instanceMethod yX5_tryCueing ∈ lw_gd := List.mem_filter.mpr ⟨List.mem_of_getElem? (i := 363) (by decide +kernel), by decide +kernel⟩
theorem qk_364 : Cond.code yX5_tryCueing cX5_tryCueing 5 (some .int) ∈ lw_gd := List.mem_filter.mpr ⟨List.mem_of_getElem? (i := 364) (by decide +kernel), by decide +kernel⟩
theorem qk_365 : Cond.methodLink RX5 131 yX5_isStrength ∈ lw_gd := List.mem_filter.mpr ⟨List.mem_of_getElem? (i := 365) (by decide +kernel), by decide +kernel⟩
theorem qk_366 : Cond.static yX5_isStrength ∈ lw_gd := List.mem_filter.mpr ⟨List.mem_of_getElem? (i := 366) (by decide +kernel), by decide +kernel⟩
theorem qk_367 : Cond.code yX5_isStrength cX5_isStrength 1 (some .boolean) ∈ lw_gd := List.mem_filter.mpr ⟨List.mem_of_getElem? (i := 367) (by decide +kernel), by decide +kernel⟩
theorem qk_368 : Cond.methodLink RX5 178 yX0_propAt ∈ lw_gd := List.mem_filter.mpr ⟨List.mem_of_getElem? (i := 368) (by decide +kernel), by decide +kernel⟩
theorem qk_369 : Cond.methodLink RX5 320 yX5_trySetting ∈ lw_gd := List.mem_filter.mpr ⟨List.mem_of_getElem? (i := 369) (by decide +kernel), by decide +kernel⟩
theorem qk_371 : Cond.instanceMethod yX5_trySetting ∈ lw_gd := List.mem_filter.mpr ⟨List.mem_of_getElem? (i := 371) (by decide +kernel), by decide +kernel⟩
theorem qk_372 : Cond.code yX5_trySetting cX5_trySetting 3 (some .int) ∈ lw_gd := List.mem_filter.mpr ⟨List.mem_of_getElem? (i := 372) (by decide +kernel), by decide +kernel⟩
theorem qk_373 : Cond.methodLink RX5 175 yX0_performShock ∈ lw_gd := List.mem_filter.mpr ⟨List.mem_of_getElem? (i := 373) (by decide +kernel), by decide +kernel⟩
theorem qk_374 : Cond.instanceMethod yX0_performShock ∈ lw_gd := List.mem_filter.mpr ⟨List.mem_of_getElem? (i := 374) (by decide +kernel), by decide +kernel⟩
theorem qk_375 : Cond.selects RX0 yX0_performShock yX0_performShock ∈ lw_gd := List.mem_filter.mpr ⟨List.mem_of_getElem? (i := 375) (by decide +kernel), by decide +kernel⟩
theorem qk_376 : Cond.code yX0_performShock cX0_performShock 3 (some .int) ∈ lw_gd := List.mem_filter.mpr ⟨List.mem_of_getElem? (i := 376) (by decide +kernel), by decide +kernel⟩
theorem qk_377 : Cond.methodLink RX0 83 yX0_spread ∈ lw_gd := List.mem_filter.mpr ⟨List.mem_of_getElem? (i := 377) (by decide +kernel), by decide +kernel⟩
theorem qk_378 : Cond.instanceMethod yX0_spread ∈ lw_gd := List.mem_filter.mpr ⟨List.mem_of_getElem? (i := 378) (by decide +kernel), by decide +kernel⟩
theorem qk_379 : Cond.selects RX0 yX0_spread yX0_spread ∈ lw_gd := List.mem_filter.mpr ⟨List.mem_of_getElem? (i := 379) (by decide +kernel), by decide +kernel⟩
theorem qk_380 : Cond.code yX0_spread cX0_spread 4 (none) ∈ lw_gd := List.mem_filter.mpr ⟨List.mem_of_getElem? (i := 380) (by decide +kernel), by decide +kernel⟩
theorem qk_381 : Cond.methodLink RX0 95 yX0_findCats ∈ lw_gd := List.mem_filter.mpr ⟨List.mem_of_getElem? (i := 381) (by decide +kernel), by decide +kernel⟩
theorem qk_382 : Cond.instanceMethod yX0_findCats ∈ lw_gd := List.mem_filter.mpr ⟨List.mem_of_getElem? (i := 382) (by decide +kernel), by decide +kernel⟩
theorem qk_383 : Cond.selects RX0 yX0_findCats yX0_findCats ∈ lw_gd := List.mem_filter.mpr ⟨List.mem_of_getElem? (i := 383) (by decide +kernel), by decide +kernel⟩
theorem qk_384 : Cond.code yX0_findCats cX0_findCats 3 (none) ∈ lw_gd := List.mem_filter.mpr ⟨List.mem_of_getElem? (i := 384) (by decide +kernel), by decide +kernel⟩
theorem qk_386 : Cond.methodLink RX0 102 yX0_shakeCups ∈ lw_gd := List.mem_filter.mpr ⟨List.mem_of_getElem? (i := 386) (by decide +kernel), by decide +kernel⟩
theorem qk_387 : Cond.instanceMethod yX0_shakeCups ∈ lw_gd := List.mem_filter.mpr ⟨List.mem_of_getElem? (i := 387) (by decide +kernel), by decide +kernel⟩
theorem qk_388 : Cond.selects RX0 yX0_shakeCups yX0_shakeCups ∈ lw_gd := List.mem_filter.mpr ⟨List.mem_of_getElem? (i := 388) (by decide +kernel), by decide +kernel⟩
theorem qk_389 : Cond.code yX0_shakeCups cX0_shakeCups 3 (none) ∈ lw_gd := List.mem_filter.mpr ⟨List.mem_of_getElem? (i := 389) (by decide +kernel), by decide +kernel⟩
theorem qk_390 : Cond.methodLink RX0 87 yX0_reachOn ∈ lw_gd := List.mem_filter.mpr ⟨List.mem_of_getElem? (i := 390) (by decide +kernel), by decide +kernel⟩
theorem qk_391 : Cond.instanceMethod yX0_reachOn ∈ lw_gd := List.mem_filter.mpr ⟨List.mem_of_getElem? (i := 391) (by decide +kernel), by decide +kernel⟩
theorem qk_392 : Cond.selects RX0 yX0_reachOn yX0_reachOn ∈ lw_gd := List.mem_filter.mpr ⟨List.mem_of_getElem? (i := 392) (by decide +kernel), by decide +kernel⟩
theorem qk_393 : Cond.code yX0_reachOn cX0_reachOn 2 (some .int) ∈ lw_gd := List.mem_filter.mpr ⟨List.mem_of_getElem? (i := 393) (by decide +kernel), by decide +kernel⟩
theorem qk_394 : Cond.methodLink RX0 112 yX3_shakeCup ∈ lw_gd := List.mem_filter.mpr ⟨List.mem_of_getElem? (i := 394) (by decide +kernel), by decide +kernel⟩
theorem qk_395 : Cond.instanceMethod yX3_shakeCup ∈ lw_gd := List.mem_filter.mpr ⟨List.mem_of_getElem? (i := 395) (by decide +kernel), by decide +kernel⟩
theorem qk_396 : Cond.selects RX3 yX3_shakeCup yX3_shakeCup ∈ lw_gd := List.mem_filter.mpr ⟨List.mem_of_getElem? (i := 396) (by decide +kernel), by decide +kernel⟩
theorem qk_397 : Cond.code yX3_shakeCup cX3_shakeCup 2 (some .boolean) ∈ lw_gd := List.mem_filter.mpr ⟨List.mem_of_getElem? (i := 397) (by decide +kernel), by decide +kernel⟩
theorem qk_398 : Cond.methodLink RX0 115 yX0_noteBreakage ∈ lw_gd := List.mem_filter.mpr ⟨List.mem_of_getElem? (i := 398) (by decide +kernel), by decide +kernel⟩
theorem qk_399 : Cond.instanceMethod yX0_noteBreakage ∈ lw_gd := List.mem_filter.mpr ⟨List.mem_of_getElem? (i := 399) (by decide +kernel), by decide +kernel⟩
theorem qk_400 : Cond.selects RX0 yX0_noteBreakage yX0_noteBreakage ∈ lw_gd := List.mem_filter.mpr ⟨List.mem_of_getElem? (i := 400) (by decide +kernel), by decide +kernel⟩
theorem qk_401 : Cond.code yX0_noteBreakage cX0_noteBreakage 2 (none) ∈ lw_gd := List.mem_filter.mpr ⟨List.mem_of_getElem? (i := 401) (by decide +kernel), by decide +kernel⟩
theorem qk_402 : Cond.methodLink RX0 105 yX0_shakeLamps ∈ lw_gd := List.mem_filter.mpr ⟨List.mem_of_getElem? (i := 402) (by decide +kernel), by decide +kernel⟩
theorem qk_403 : Cond.instanceMethod yX0_shakeLamps ∈ lw_gd := List.mem_filter.mpr ⟨List.mem_of_getElem? (i := 403) (by decide +kernel), by decide +kernel⟩
theorem qk_404 : Cond.selects RX0 yX0_shakeLamps yX0_shakeLamps ∈ lw_gd := List.mem_filter.mpr ⟨List.mem_of_getElem? (i := 404) (by decide +kernel), by decide +kernel⟩
theorem qk_405 : Cond.code yX0_shakeLamps cX0_shakeLamps 4 (none) ∈ lw_gd := List.mem_filter.mpr ⟨List.mem_of_getElem? (i := 405) (by decide +kernel), by decide +kernel⟩
theorem qk_406 : Cond.methodLink RX0 118 yX3_shakeLamp ∈ lw_gd := List.mem_filter.mpr ⟨List.mem_of_getElem? (i := 406) (by decide +kernel), by decide +kernel⟩
theorem qk_407 : Cond.instanceMethod yX3_shakeLamp ∈ lw_gd := List.mem_filter.mpr ⟨List.mem_of_getElem? (i := 407) (by decide +kernel), by decide +kernel⟩
theorem qk_408 : Cond.selects RX3 yX3_shakeLamp yX3_shakeLamp ∈ lw_gd := List.mem_filter.mpr ⟨List.mem_of_getElem? (i := 408) (by decide +kernel), by decide +kernel⟩
theorem qk_409 : Cond.code yX3_shakeLamp cX3_shakeLamp 3 (some .boolean) ∈ lw_gd := List.mem_filter.mpr ⟨List.mem_of_getElem? (i := 409) (by decide +kernel), by decide +kernel⟩
theorem qk_410 : Cond.methodLink RX3 34 yX3_swingAfter ∈ lw_gd := List.mem_filter.mpr ⟨List.mem_of_getElem? (i := 410) (by decide +kernel), by decide +kernel⟩
theorem qk_411 : Cond.instanceMethod yX3_swingAfter ∈ lw_gd := List.mem_filter.mpr ⟨List.mem_of_getElem? (i := 411) (by decide +kernel), by decide +kernel⟩
theorem qk_412 : Cond.selects RX3 yX3_swingAfter yX3_swingAfter ∈ lw_gd := List.mem_filter.mpr ⟨List.mem_of_getElem? (i := 412) (by decide +kernel), by decide +kernel⟩
theorem qk_413 : Cond.code yX3_swingAfter cX3_swingAfter 4 (some .int) ∈ lw_gd := List.mem_filter.mpr ⟨List.mem_of_getElem? (i := 413) (by decide +kernel), by decide +kernel⟩
theorem qk_414 : Cond.methodLink RX0 108 yX0_askCats ∈ lw_gd := List.mem_filter.mpr ⟨List.mem_of_getElem? (i := 414) (by decide +kernel), by decide +kernel⟩
theorem qk_415 : Cond.instanceMethod yX0_askCats ∈ lw_gd := List.mem_filter.mpr ⟨List.mem_of_getElem? (i := 415) (by decide +kernel), by decide +kernel⟩
theorem qk_416 : Cond.selects RX0 yX0_askCats yX0_askCats ∈ lw_gd := List.mem_filter.mpr ⟨List.mem_of_getElem? (i := 416) (by decide +kernel), by decide +kernel⟩
theorem qk_417 : Cond.code yX0_askCats cX0_askCats 4 (some .int) ∈ lw_gd := List.mem_filter.mpr ⟨List.mem_of_getElem? (i := 417) (by decide +kernel), by decide +kernel⟩
theorem qk_418 : Cond.methodLink RX0 122 yX0_isFrightening ∈ lw_gd := List.mem_filter.mpr ⟨List.mem_of_getElem? (i := 418) (by decide +kernel), by decide +kernel⟩
theorem qk_419 : Cond.instanceMethod yX0_isFrightening ∈ lw_gd := List.mem_filter.mpr ⟨List.mem_of_getElem? (i := 419) (by decide +kernel), by decide +kernel⟩
theorem qk_420 : Cond.selects RX0 yX0_isFrightening yX0_isFrightening ∈ lw_gd := List.mem_filter.mpr ⟨List.mem_of_getElem? (i := 420) (by decide +kernel), by decide +kernel⟩
theorem qk_421 : Cond.code yX0_isFrightening cX0_isFrightening 2 (some .boolean) ∈ lw_gd := List.mem_filter.mpr ⟨List.mem_of_getElem? (i := 421) (by decide +kernel), by decide +kernel⟩
theorem qk_422 : Cond.methodLink RX0 125 yX3_judge ∈ lw_gd := List.mem_filter.mpr ⟨List.mem_of_getElem? (i := 422) (by decide +kernel), by decide +kernel⟩
theorem qk_423 : Cond.instanceMethod yX3_judge ∈ lw_gd := List.mem_filter.mpr ⟨List.mem_of_getElem? (i := 423) (by decide +kernel), by decide +kernel⟩
theorem qk_424 : Cond.selects RX3 yX3_judge yX3_judge ∈ lw_gd := List.mem_filter.mpr ⟨List.mem_of_getElem? (i := 424) (by decide +kernel), by decide +kernel⟩
theorem qk_425 : Cond.code yX3_judge cX3_judge 4 (some .int) ∈ lw_gd := List.mem_filter.mpr ⟨List.mem_of_getElem? (i := 425) (by decide +kernel), by decide +kernel⟩
theorem qk_426 : Cond.methodLink RX3 38 ⟨"java/lang/Math", "abs", "(I)I"⟩ ∈ lw_gd := List.mem_filter.mpr ⟨List.mem_of_getElem? (i := 426) (by decide +kernel), by decide +kernel⟩
theorem qk_427 : Cond.static ⟨"java/lang/Math", "abs", "(I)I"⟩ ∈ lw_gd := List.mem_filter.mpr ⟨List.mem_of_getElem? (i := 427) (by decide +kernel), by decide +kernel⟩
theorem qk_428 : Cond.code Lib.Math.abs.name Lib.Math.abs.code 1 (some .int) ∈ lw_gd := List.mem_filter.mpr ⟨List.mem_of_getElem? (i := 428) (by decide +kernel), by decide +kernel⟩
theorem qk_429 : Cond.methodLink RX5 326 yX5_tryAdding ∈ lw_gd := List.mem_filter.mpr ⟨List.mem_of_getElem? (i := 429) (by decide +kernel), by decide +kernel⟩
theorem qk_431 : Cond.instanceMethod yX5_tryAdding ∈ lw_gd := List.mem_filter.mpr ⟨List.mem_of_getElem? (i := 431) (by decide +kernel), by decide +kernel⟩
theorem qk_432 : Cond.code yX5_tryAdding cX5_tryAdding 2 (some .int) ∈ lw_gd := List.mem_filter.mpr ⟨List.mem_of_getElem? (i := 432) (by decide +kernel), by decide +kernel⟩
theorem qk_433 : Cond.methodLink RX5 341 yX0_plan ∈ lw_gd := List.mem_filter.mpr ⟨List.mem_of_getElem? (i := 433) (by decide +kernel), by decide +kernel⟩
theorem qk_434 : Cond.instanceMethod yX0_plan ∈ lw_gd := List.mem_filter.mpr ⟨List.mem_of_getElem? (i := 434) (by decide +kernel), by decide +kernel⟩
theorem qk_435 : Cond.selects RX0 yX0_plan yX0_plan ∈ lw_gd := List.mem_filter.mpr ⟨List.mem_of_getElem? (i := 435) (by decide +kernel), by decide +kernel⟩
theorem qk_436 : Cond.code yX0_plan cX0_plan 2 (some .int) ∈ lw_gd := List.mem_filter.mpr ⟨List.mem_of_getElem? (i := 436) (by decide +kernel), by decide +kernel⟩
theorem qk_437 : Cond.methodLink RX5 163 yX0_performProgramme ∈ lw_gd := List.mem_filter.mpr ⟨List.mem_of_getElem? (i := 437) (by decide +kernel), by decide +kernel⟩
theorem qk_438 : Cond.instanceMethod yX0_performProgramme ∈ lw_gd := List.mem_filter.mpr ⟨List.mem_of_getElem? (i := 438) (by decide +kernel), by decide +kernel⟩
theorem qk_439 : Cond.selects RX0 yX0_performProgramme yX0_performProgramme ∈ lw_gd := List.mem_filter.mpr ⟨List.mem_of_getElem? (i := 439) (by decide +kernel), by decide +kernel⟩
theorem qk_440 : Cond.code yX0_performProgramme cX0_performProgramme 6 (some .int) ∈ lw_gd := List.mem_filter.mpr ⟨List.mem_of_getElem? (i := 440) (by decide +kernel), by decide +kernel⟩
theorem qk_441 : Cond.methodLink RX0 129 yX0_countOf ∈ lw_gd := List.mem_filter.mpr ⟨List.mem_of_getElem? (i := 441) (by decide +kernel), by decide +kernel⟩
theorem qk_442 : Cond.instanceMethod yX0_countOf ∈ lw_gd := List.mem_filter.mpr ⟨List.mem_of_getElem? (i := 442) (by decide +kernel), by decide +kernel⟩
theorem qk_443 : Cond.selects RX0 yX0_countOf yX0_countOf ∈ lw_gd := List.mem_filter.mpr ⟨List.mem_of_getElem? (i := 443) (by decide +kernel), by decide +kernel⟩
theorem qk_444 : Cond.code yX0_countOf cX0_countOf 4 (some .int) ∈ lw_gd := List.mem_filter.mpr ⟨List.mem_of_getElem? (i := 444) (by decide +kernel), by decide +kernel⟩
theorem qk_445 : Cond.methodLink RX0 132 yX0_plannedAt ∈ lw_gd := List.mem_filter.mpr ⟨List.mem_of_getElem? (i := 445) (by decide +kernel), by decide +kernel⟩
theorem qk_446 : Cond.instanceMethod yX0_plannedAt ∈ lw_gd := List.mem_filter.mpr ⟨List.mem_of_getElem? (i := 446) (by decide +kernel), by decide +kernel⟩
theorem qk_447 : Cond.selects RX0 yX0_plannedAt yX0_plannedAt ∈ lw_gd := List.mem_filter.mpr ⟨List.mem_of_getElem? (i := 447) (by decide +kernel), by decide +kernel⟩
theorem qk_448 : Cond.code yX0_plannedAt cX0_plannedAt 2 (some .int) ∈ lw_gd := List.mem_filter.mpr ⟨List.mem_of_getElem? (i := 448) (by decide +kernel), by decide +kernel⟩
theorem qk_449 : Cond.methodLink RX0 135 yX0_performShock ∈ lw_gd := List.mem_filter.mpr ⟨List.mem_of_getElem? (i := 449) (by decide +kernel), by decide +kernel⟩
theorem qk_450 : Cond.methodLink RX5 332 yX0_calm ∈ lw_gd := List.mem_filter.mpr ⟨List.mem_of_getElem? (i := 450) (by decide +kernel), by decide +kernel⟩
theorem qk_451 : Cond.instanceMethod yX0_calm ∈ lw_gd := List.mem_filter.mpr ⟨List.mem_of_getElem? (i := 451) (by decide +kernel), by decide +kernel⟩
theorem qk_452 : Cond.selects RX0 yX0_calm yX0_calm ∈ lw_gd := List.mem_filter.mpr ⟨List.mem_of_getElem? (i := 452) (by decide +kernel), by decide +kernel⟩
theorem qk_453 : Cond.code yX0_calm cX0_calm 4 (some .int) ∈ lw_gd := List.mem_filter.mpr ⟨List.mem_of_getElem? (i := 453) (by decide +kernel), by decide +kernel⟩
theorem qk_454 : Cond.methodLink RX5 238 yX1_keepNote ∈ lw_gd := List.mem_filter.mpr ⟨List.mem_of_getElem? (i := 454) (by decide +kernel), by decide +kernel⟩
theorem qk_455 : Cond.instanceMethod yX1_keepNote ∈ lw_gd := List.mem_filter.mpr ⟨List.mem_of_getElem? (i := 455) (by decide +kernel), by decide +kernel⟩
theorem qk_456 : Cond.selects RX1 yX1_keepNote yX1_keepNote ∈ lw_gd := List.mem_filter.mpr ⟨List.mem_of_getElem? (i := 456) (by decide +kernel), by decide +kernel⟩
theorem qk_457 : Cond.code yX1_keepNote cX1_keepNote 1 (none) ∈ lw_gd := List.mem_filter.mpr ⟨List.mem_of_getElem? (i := 457) (by decide +kernel), by decide +kernel⟩
theorem qk_458 : Cond.methodLink "QuakeRehearsalLaw" 162 yX5_quiet ∈ lw_gd := List.mem_filter.mpr ⟨List.mem_of_getElem? (i := 458) (by decide +kernel), by decide +kernel⟩
theorem qk_459 : Cond.instanceMethod yX5_quiet ∈ lw_gd := List.mem_filter.mpr ⟨List.mem_of_getElem? (i := 459) (by decide +kernel), by decide +kernel⟩
theorem qk_460 : Cond.selects RX5 yX5_quiet yX5_quiet ∈ lw_gd := List.mem_filter.mpr ⟨List.mem_of_getElem? (i := 460) (by decide +kernel), by decide +kernel⟩
theorem qk_461 : Cond.code yX5_quiet cX5_quiet 1 (some .int) ∈ lw_gd := List.mem_filter.mpr ⟨List.mem_of_getElem? (i := 461) (by decide +kernel), by decide +kernel⟩
theorem qk_462 : Cond.methodLink "QuakeRehearsalLaw" 183 yX5_programmeBreaks ∈ lw_gd := List.mem_filter.mpr ⟨List.mem_of_getElem? (i := 462) (by decide +kernel), by decide +kernel⟩
theorem qk_463 : Cond.instanceMethod yX5_programmeBreaks ∈ lw_gd := List.mem_filter.mpr ⟨List.mem_of_getElem? (i := 463) (by decide +kernel), by decide +kernel⟩
theorem qk_464 : Cond.selects RX5 yX5_programmeBreaks yX5_programmeBreaks ∈ lw_gd := List.mem_filter.mpr ⟨List.mem_of_getElem? (i := 464) (by decide +kernel), by decide +kernel⟩
theorem qk_465 : Cond.code yX5_programmeBreaks cX5_programmeBreaks 1 (some .int) ∈ lw_gd := List.mem_filter.mpr ⟨List.mem_of_getElem? (i := 465) (by decide +kernel), by decide +kernel⟩
theorem qk_466 : Cond.methodLink RX5 159 yX0_copyFrom ∈ lw_gd := List.mem_filter.mpr ⟨List.mem_of_getElem? (i := 466) (by decide +kernel), by decide +kernel⟩
theorem qk_467 : Cond.methodLink "QuakeRehearsalLaw" 187 yX5_best ∈ lw_gd := List.mem_filter.mpr ⟨List.mem_of_getElem? (i := 467) (by decide +kernel), by decide +kernel⟩
theorem qk_468 : Cond.instanceMethod yX5_best ∈ lw_gd := List.mem_filter.mpr ⟨List.mem_of_getElem? (i := 468) (by decide +kernel), by decide +kernel⟩
theorem qk_469 : Cond.selects RX5 yX5_best yX5_best ∈ lw_gd := List.mem_filter.mpr ⟨List.mem_of_getElem? (i := 469) (by decide +kernel), by decide +kernel⟩
theorem qk_470 : Cond.code yX5_best cX5_best 5 (some .int) ∈ lw_gd := List.mem_filter.mpr ⟨List.mem_of_getElem? (i := 470) (by decide +kernel), by decide +kernel⟩
theorem qk_471 : Cond.methodLink RX5 150 yX5_marksInThought ∈ lw_gd := List.mem_filter.mpr ⟨List.mem_of_getElem? (i := 471) (by decide +kernel), by decide +kernel⟩
theorem qk_473 : Cond.instanceMethod yX5_marksInThought ∈ lw_gd := List.mem_filter.mpr ⟨List.mem_of_getElem? (i := 473) (by decide +kernel), by decide +kernel⟩
theorem qk_474 : Cond.code yX5_marksInThought cX5_marksInThought 2 (some .int) ∈ lw_gd := List.mem_filter.mpr ⟨List.mem_of_getElem? (i := 474) (by decide +kernel), by decide +kernel⟩
theorem qk_475 : Cond.methodLink "QuakeRehearsalLaw" 215 yX5_programmeLine ∈ lw_gd := List.mem_filter.mpr ⟨List.mem_of_getElem? (i := 475) (by decide +kernel), by decide +kernel⟩
theorem qk_476 : Cond.instanceMethod yX5_programmeLine ∈ lw_gd := List.mem_filter.mpr ⟨List.mem_of_getElem? (i := 476) (by decide +kernel), by decide +kernel⟩
theorem qk_477 : Cond.selects RX5 yX5_programmeLine yX5_programmeLine ∈ lw_gd := List.mem_filter.mpr ⟨List.mem_of_getElem? (i := 477) (by decide +kernel), by decide +kernel⟩
theorem qk_478 : Cond.code yX5_programmeLine cX5_programmeLine 1 (some .int) ∈ lw_gd := List.mem_filter.mpr ⟨List.mem_of_getElem? (i := 478) (by decide +kernel), by decide +kernel⟩
theorem qk_479 : Cond.methodLink RX5 196 yX2_writeProgramme ∈ lw_gd := List.mem_filter.mpr ⟨List.mem_of_getElem? (i := 479) (by decide +kernel), by decide +kernel⟩
theorem qk_480 : Cond.instanceMethod yX2_writeProgramme ∈ lw_gd := List.mem_filter.mpr ⟨List.mem_of_getElem? (i := 480) (by decide +kernel), by decide +kernel⟩
theorem qk_481 : Cond.selects RX2 yX2_writeProgramme yX2_writeProgramme ∈ lw_gd := List.mem_filter.mpr ⟨List.mem_of_getElem? (i := 481) (by decide +kernel), by decide +kernel⟩
theorem qk_482 : Cond.code yX2_writeProgramme cX2_writeProgramme 3 (none) ∈ lw_gd := List.mem_filter.mpr ⟨List.mem_of_getElem? (i := 482) (by decide +kernel), by decide +kernel⟩
theorem qk_483 : Cond.methodLink RX2 53 yX0_plannedAt ∈ lw_gd := List.mem_filter.mpr ⟨List.mem_of_getElem? (i := 483) (by decide +kernel), by decide +kernel⟩
theorem qk_484 : Cond.methodLink RX2 31 yX2_putNumber ∈ lw_gd := List.mem_filter.mpr ⟨List.mem_of_getElem? (i := 484) (by decide +kernel), by decide +kernel⟩
theorem qk_485 : Cond.instanceMethod yX2_putNumber ∈ lw_gd := List.mem_filter.mpr ⟨List.mem_of_getElem? (i := 485) (by decide +kernel), by decide +kernel⟩
theorem qk_486 : Cond.selects RX2 yX2_putNumber yX2_putNumber ∈ lw_gd := List.mem_filter.mpr ⟨List.mem_of_getElem? (i := 486) (by decide +kernel), by decide +kernel⟩
theorem qk_487 : Cond.code yX2_putNumber cX2_putNumber 2 (none) ∈ lw_gd := List.mem_filter.mpr ⟨List.mem_of_getElem? (i := 487) (by decide +kernel), by decide +kernel⟩
theorem qk_488 : Cond.methodLink RX2 19 yX2_put ∈ lw_gd := List.mem_filter.mpr ⟨List.mem_of_getElem? (i := 488) (by decide +kernel), by decide +kernel⟩
theorem qk_489 : Cond.instanceMethod yX2_put ∈ lw_gd := List.mem_filter.mpr ⟨List.mem_of_getElem? (i := 489) (by decide +kernel), by decide +kernel⟩
theorem qk_490 : Cond.selects RX2 yX2_put yX2_put ∈ lw_gd := List.mem_filter.mpr ⟨List.mem_of_getElem? (i := 490) (by decide +kernel), by decide +kernel⟩
theorem qk_491 : Cond.code yX2_put cX2_put 2 (none) ∈ lw_gd := List.mem_filter.mpr ⟨List.mem_of_getElem? (i := 491) (by decide +kernel), by decide +kernel⟩
theorem qk_492 : Cond.methodLink "QuakeRehearsalLaw" 229 yX5_errorPosition ∈ lw_gd := List.mem_filter.mpr ⟨List.mem_of_getElem? (i := 492) (by decide +kernel), by decide +kernel⟩
theorem qk_493 : Cond.instanceMethod yX5_errorPosition ∈ lw_gd := List.mem_filter.mpr ⟨List.mem_of_getElem? (i := 493) (by decide +kernel), by decide +kernel⟩
theorem qk_494 : Cond.selects RX5 yX5_errorPosition yX5_errorPosition ∈ lw_gd := List.mem_filter.mpr ⟨List.mem_of_getElem? (i := 494) (by decide +kernel), by decide +kernel⟩
theorem qk_495 : Cond.code yX5_errorPosition cX5_errorPosition 1 (some .int) ∈ lw_gd := List.mem_filter.mpr ⟨List.mem_of_getElem? (i := 495) (by decide +kernel), by decide +kernel⟩
theorem qk_496 : Cond.methodLink "QuakeRehearsalLaw" 240 yX5_isWell ∈ lw_gd := List.mem_filter.mpr ⟨List.mem_of_getElem? (i := 496) (by decide +kernel), by decide +kernel⟩
theorem qk_497 : Cond.instanceMethod yX5_isWell ∈ lw_gd := List.mem_filter.mpr ⟨List.mem_of_getElem? (i := 497) (by decide +kernel), by decide +kernel⟩
theorem qk_498 : Cond.selects RX5 yX5_isWell yX5_isWell ∈ lw_gd := List.mem_filter.mpr ⟨List.mem_of_getElem? (i := 498) (by decide +kernel), by decide +kernel⟩
theorem qk_499 : Cond.code yX5_isWell cX5_isWell 1 (some .boolean) ∈ lw_gd := List.mem_filter.mpr ⟨List.mem_of_getElem? (i := 499) (by decide +kernel), by decide +kernel⟩
theorem qk_500 : Cond.methodLink RX5 273 yX5_isReachAlike ∈ lw_gd := List.mem_filter.mpr ⟨List.mem_of_getElem? (i := 500) (by decide +kernel), by decide +kernel⟩
theorem qk_502 : Cond.instanceMethod yX5_isReachAlike ∈ lw_gd := List.mem_filter.mpr ⟨List.mem_of_getElem? (i := 502) (by decide +kernel), by decide +kernel⟩
theorem qk_503 : Cond.code yX5_isReachAlike cX5_isReachAlike 3 (some .boolean) ∈ lw_gd := List.mem_filter.mpr ⟨List.mem_of_getElem? (i := 503) (by decide +kernel), by decide +kernel⟩
theorem qk_504 : Cond.methodLink RX5 143 yX0_reachFloorByFloor ∈ lw_gd := List.mem_filter.mpr ⟨List.mem_of_getElem? (i := 504) (by decide +kernel), by decide +kernel⟩
theorem qk_505 : Cond.instanceMethod yX0_reachFloorByFloor ∈ lw_gd := List.mem_filter.mpr ⟨List.mem_of_getElem? (i := 505) (by decide +kernel), by decide +kernel⟩
theorem qk_506 : Cond.selects RX0 yX0_reachFloorByFloor yX0_reachFloorByFloor ∈ lw_gd := List.mem_filter.mpr ⟨List.mem_of_getElem? (i := 506) (by decide +kernel), by decide +kernel⟩
theorem qk_507 : Cond.code yX0_reachFloorByFloor cX0_reachFloorByFloor 3 (some .int) ∈ lw_gd := List.mem_filter.mpr ⟨List.mem_of_getElem? (i := 507) (by decide +kernel), by decide +kernel⟩
theorem qk_508 : Cond.methodLink RX5 140 yX0_reachAgain ∈ lw_gd := List.mem_filter.mpr ⟨List.mem_of_getElem? (i := 508) (by decide +kernel), by decide +kernel⟩
theorem qk_509 : Cond.instanceMethod yX0_reachAgain ∈ lw_gd := List.mem_filter.mpr ⟨List.mem_of_getElem? (i := 509) (by decide +kernel), by decide +kernel⟩
theorem qk_510 : Cond.selects RX0 yX0_reachAgain yX0_reachAgain ∈ lw_gd := List.mem_filter.mpr ⟨List.mem_of_getElem? (i := 510) (by decide +kernel), by decide +kernel⟩
theorem qk_511 : Cond.code yX0_reachAgain cX0_reachAgain 5 (some .int) ∈ lw_gd := List.mem_filter.mpr ⟨List.mem_of_getElem? (i := 511) (by decide +kernel), by decide +kernel⟩
theorem qk_512 : Cond.methodLink RX0 91 yX0_countOn ∈ lw_gd := List.mem_filter.mpr ⟨List.mem_of_getElem? (i := 512) (by decide +kernel), by decide +kernel⟩
theorem qk_513 : Cond.methodLink RX5 277 yX5_areBreakagesAlike ∈ lw_gd := List.mem_filter.mpr ⟨List.mem_of_getElem? (i := 513) (by decide +kernel), by decide +kernel⟩
theorem qk_515 : Cond.instanceMethod yX5_areBreakagesAlike ∈ lw_gd := List.mem_filter.mpr ⟨List.mem_of_getElem? (i := 515) (by decide +kernel), by decide +kernel⟩
theorem qk_516 : Cond.code yX5_areBreakagesAlike cX5_areBreakagesAlike 2 (some .boolean) ∈ lw_gd := List.mem_filter.mpr ⟨List.mem_of_getElem? (i := 516) (by decide +kernel), by decide +kernel⟩
theorem qk_517 : Cond.methodLink RX5 156 yX5_breakagesInThought ∈ lw_gd := List.mem_filter.mpr ⟨List.mem_of_getElem? (i := 517) (by decide +kernel), by decide +kernel⟩
theorem qk_519 : Cond.instanceMethod yX5_breakagesInThought ∈ lw_gd := List.mem_filter.mpr ⟨List.mem_of_getElem? (i := 519) (by decide +kernel), by decide +kernel⟩
theorem qk_520 : Cond.code yX5_breakagesInThought cX5_breakagesInThought 2 (some .int) ∈ lw_gd := List.mem_filter.mpr ⟨List.mem_of_getElem? (i := 520) (by decide +kernel), by decide +kernel⟩
theorem qk_521 : Cond.methodLink RX5 153 yX0_breakagesPropByProp ∈ lw_gd := List.mem_filter.mpr ⟨List.mem_of_getElem? (i := 521) (by decide +kernel), by decide +kernel⟩
theorem qk_522 : Cond.instanceMethod yX0_breakagesPropByProp ∈ lw_gd := List.mem_filter.mpr ⟨List.mem_of_getElem? (i := 522) (by decide +kernel), by decide +kernel⟩
theorem qk_523 : Cond.selects RX0 yX0_breakagesPropByProp yX0_breakagesPropByProp ∈ lw_gd := List.mem_filter.mpr ⟨List.mem_of_getElem? (i := 523) (by decide +kernel), by decide +kernel⟩
theorem qk_524 : Cond.code yX0_breakagesPropByProp cX0_breakagesPropByProp 5 (some .int) ∈ lw_gd := List.mem_filter.mpr ⟨List.mem_of_getElem? (i := 524) (by decide +kernel), by decide +kernel⟩
theorem qk_525 : Cond.methodLink RX0 141 yX0_reachAgain ∈ lw_gd := List.mem_filter.mpr ⟨List.mem_of_getElem? (i := 525) (by decide +kernel), by decide +kernel⟩
theorem qk_526 : Cond.methodLink RX0 144 yX3_wouldBreakBy ∈ lw_gd := List.mem_filter.mpr ⟨List.mem_of_getElem? (i := 526) (by decide +kernel), by decide +kernel⟩
theorem qk_527 : Cond.instanceMethod yX3_wouldBreakBy ∈ lw_gd := List.mem_filter.mpr ⟨List.mem_of_getElem? (i := 527) (by decide +kernel), by decide +kernel⟩
theorem qk_528 : Cond.selects RX3 yX3_wouldBreakBy yX3_wouldBreakBy ∈ lw_gd := List.mem_filter.mpr ⟨List.mem_of_getElem? (i := 528) (by decide +kernel), by decide +kernel⟩
theorem qk_529 : Cond.code yX3_wouldBreakBy cX3_wouldBreakBy 3 (some .boolean) ∈ lw_gd := List.mem_filter.mpr ⟨List.mem_of_getElem? (i := 529) (by decide +kernel), by decide +kernel⟩
theorem qk_530 : Cond.methodLink RX5 280 yX0_isDamageRight ∈ lw_gd := List.mem_filter.mpr ⟨List.mem_of_getElem? (i := 530) (by decide +kernel), by decide +kernel⟩
theorem qk_531 : Cond.instanceMethod yX0_isDamageRight ∈ lw_gd := List.mem_filter.mpr ⟨List.mem_of_getElem? (i := 531) (by decide +kernel), by decide +kernel⟩
theorem qk_532 : Cond.selects RX0 yX0_isDamageRight yX0_isDamageRight ∈ lw_gd := List.mem_filter.mpr ⟨List.mem_of_getElem? (i := 532) (by decide +kernel), by decide +kernel⟩
theorem qk_533 : Cond.code yX0_isDamageRight cX0_isDamageRight 2 (some .boolean) ∈ lw_gd := List.mem_filter.mpr ⟨List.mem_of_getElem? (i := 533) (by decide +kernel), by decide +kernel⟩
theorem qk_534 : Cond.methodLink RX0 147 yX3_isDamageRight ∈ lw_gd := List.mem_filter.mpr ⟨List.mem_of_getElem? (i := 534) (by decide +kernel), by decide +kernel⟩
theorem qk_535 : Cond.instanceMethod yX3_isDamageRight ∈ lw_gd := List.mem_filter.mpr ⟨List.mem_of_getElem? (i := 535) (by decide +kernel), by decide +kernel⟩
theorem qk_536 : Cond.selects RX3 yX3_isDamageRight yX3_isDamageRight ∈ lw_gd := List.mem_filter.mpr ⟨List.mem_of_getElem? (i := 536) (by decide +kernel), by decide +kernel⟩
theorem qk_537 : Cond.code yX3_isDamageRight cX3_isDamageRight 1 (some .boolean) ∈ lw_gd := List.mem_filter.mpr ⟨List.mem_of_getElem? (i := 537) (by decide +kernel), by decide +kernel⟩
theorem qk_538 : Cond.methodLink "QuakeRehearsalLaw" 255 yX5_save ∈ lw_gd := List.mem_filter.mpr ⟨List.mem_of_getElem? (i := 538) (by decide +kernel), by decide +kernel⟩
theorem qk_539 : Cond.instanceMethod yX5_save ∈ lw_gd := List.mem_filter.mpr ⟨List.mem_of_getElem? (i := 539) (by decide +kernel), by decide +kernel⟩
theorem qk_540 : Cond.selects RX5 yX5_save yX5_save ∈ lw_gd := List.mem_filter.mpr ⟨List.mem_of_getElem? (i := 540) (by decide +kernel), by decide +kernel⟩
theorem qk_541 : Cond.code yX5_save cX5_save 1 (some .int) ∈ lw_gd := List.mem_filter.mpr ⟨List.mem_of_getElem? (i := 541) (by decide +kernel), by decide +kernel⟩
theorem qk_542 : Cond.methodLink "QuakeRehearsalLaw" 126 ⟨"QuakeRehearsalLaw", "cup", "(LQuakeRehearsal;II[J)I"⟩ ∈ lw_gd := List.mem_filter.mpr ⟨List.mem_of_getElem? (i := 542) (by decide +kernel), by decide +kernel⟩
theorem qk_543 : Cond.static ⟨"QuakeRehearsalLaw", "cup", "(LQuakeRehearsal;II[J)I"⟩ ∈ lw_gd := List.mem_filter.mpr ⟨List.mem_of_getElem? (i := 543) (by decide +kernel), by decide +kernel⟩
theorem qk_545 : Cond.classLink "QuakeRehearsalLaw" 13 "java/lang/IllegalArgumentException" ∈ lw_gd := List.mem_filter.mpr ⟨List.mem_of_getElem? (i := 545) (by decide +kernel), by decide +kernel⟩
theorem qk_546 : Cond.classLink "QuakeRehearsalLaw" 15 "java/lang/UnsupportedOperationException" ∈ lw_gd := List.mem_filter.mpr ⟨List.mem_of_getElem? (i := 546) (by decide +kernel), by decide +kernel⟩
theorem qk_547 : Cond.methodLink "QuakeRehearsalLaw" 7 yX5_cup ∈ lw_gd := List.mem_filter.mpr ⟨List.mem_of_getElem? (i := 547) (by decide +kernel), by decide +kernel⟩
theorem qk_548 : Cond.instanceMethod yX5_cup ∈ lw_gd := List.mem_filter.mpr ⟨List.mem_of_getElem? (i := 548) (by decide +kernel), by decide +kernel⟩
theorem qk_549 : Cond.selects RX5 yX5_cup yX5_cup ∈ lw_gd := List.mem_filter.mpr ⟨List.mem_of_getElem? (i := 549) (by decide +kernel), by decide +kernel⟩
theorem qk_550 : Cond.code yX5_cup cX5_cup 3 (some .int) ∈ lw_gd := List.mem_filter.mpr ⟨List.mem_of_getElem? (i := 550) (by decide +kernel), by decide +kernel⟩
theorem qk_551 : Cond.methodLink RX5 60 yX5_placed ∈ lw_gd := List.mem_filter.mpr ⟨List.mem_of_getElem? (i := 551) (by decide +kernel), by decide +kernel⟩
theorem qk_553 : Cond.instanceMethod yX5_placed ∈ lw_gd := List.mem_filter.mpr ⟨List.mem_of_getElem? (i := 553) (by decide +kernel), by decide +kernel⟩
theorem qk_554 : Cond.code yX5_placed cX5_placed 5 (some .int) ∈ lw_gd := List.mem_filter.mpr ⟨List.mem_of_getElem? (i := 554) (by decide +kernel), by decide +kernel⟩
theorem qk_555 : Cond.classLink RX5 74 "java/lang/IllegalArgumentException" ∈ lw_gd := List.mem_filter.mpr ⟨List.mem_of_getElem? (i := 555) (by decide +kernel), by decide +kernel⟩
theorem qk_564 : Cond.selects "java/lang/IllegalArgumentException" ⟨"java/lang/Throwable", "fillInStackTrace", "(I)Ljava/lang/Throwable;"⟩ ⟨"java/lang/Throwable", "fillInStackTrace", "(I)Ljava/lang/Throwable;"⟩ ∈ lw_gd := List.mem_filter.mpr ⟨List.mem_of_getElem? (i := 564) (by decide +kernel), by decide +kernel⟩
theorem qk_565 : Cond.selects "java/lang/IllegalArgumentException" ⟨"java/lang/Throwable", "fillInStackTrace", "()Ljava/lang/Throwable;"⟩ ⟨"java/lang/Throwable", "fillInStackTrace", "()Ljava/lang/Throwable;"⟩ ∈ lw_gd := List.mem_filter.mpr ⟨List.mem_of_getElem? (i := 565) (by decide +kernel), by decide +kernel⟩
theorem qk_578 : Cond.instanceMethod ⟨"java/lang/Throwable", "<init>", "()V"⟩ ∈ lw_gd := List.mem_filter.mpr ⟨List.mem_of_getElem? (i := 578) (by decide +kernel), by decide +kernel⟩
theorem qk_586 : Cond.instanceMethod ⟨"java/lang/Throwable", "fillInStackTrace", "()Ljava/lang/Throwable;"⟩ ∈ lw_gd := List.mem_filter.mpr ⟨List.mem_of_getElem? (i := 586) (by decide +kernel), by decide +kernel⟩
theorem qk_588 : Cond.selects "java/lang/ArithmeticException" ⟨"java/lang/Throwable", "fillInStackTrace", "()Ljava/lang/Throwable;"⟩ ⟨"java/lang/Throwable", "fillInStackTrace", "()Ljava/lang/Throwable;"⟩ ∈ lw_gd := List.mem_filter.mpr ⟨List.mem_of_getElem? (i := 588) (by decide +kernel), by decide +kernel⟩
theorem qk_589 : Cond.selects "java/lang/ArrayIndexOutOfBoundsException" ⟨"java/lang/Throwable", "fillInStackTrace", "()Ljava/lang/Throwable;"⟩ ⟨"java/lang/Throwable", "fillInStackTrace", "()Ljava/lang/Throwable;"⟩ ∈ lw_gd := List.mem_filter.mpr ⟨List.mem_of_getElem? (i := 589) (by decide +kernel), by decide +kernel⟩
theorem qk_590 : Cond.selects "java/lang/IllegalStateException" ⟨"java/lang/Throwable", "fillInStackTrace", "()Ljava/lang/Throwable;"⟩ ⟨"java/lang/Throwable", "fillInStackTrace", "()Ljava/lang/Throwable;"⟩ ∈ lw_gd := List.mem_filter.mpr ⟨List.mem_of_getElem? (i := 590) (by decide +kernel), by decide +kernel⟩
theorem qk_591 : Cond.selects "java/lang/IndexOutOfBoundsException" ⟨"java/lang/Throwable", "fillInStackTrace", "()Ljava/lang/Throwable;"⟩ ⟨"java/lang/Throwable", "fillInStackTrace", "()Ljava/lang/Throwable;"⟩ ∈ lw_gd := List.mem_filter.mpr ⟨List.mem_of_getElem? (i := 591) (by decide +kernel), by decide +kernel⟩
theorem qk_592 : Cond.selects "java/lang/UnsupportedOperationException" ⟨"java/lang/Throwable", "fillInStackTrace", "()Ljava/lang/Throwable;"⟩ ⟨"java/lang/Throwable", "fillInStackTrace", "()Ljava/lang/Throwable;"⟩ ∈ lw_gd := List.mem_filter.mpr ⟨List.mem_of_getElem? (i := 592) (by decide +kernel), by decide +kernel⟩
theorem qk_593 : Cond.selects "java/util/NoSuchElementException" ⟨"java/lang/Throwable", "fillInStackTrace", "()Ljava/lang/Throwable;"⟩ ⟨"java/lang/Throwable", "fillInStackTrace", "()Ljava/lang/Throwable;"⟩ ∈ lw_gd := List.mem_filter.mpr ⟨List.mem_of_getElem? (i := 593) (by decide +kernel), by decide +kernel⟩
theorem qk_597 : Cond.instanceMethod ⟨"java/lang/Throwable", "fillInStackTrace", "(I)Ljava/lang/Throwable;"⟩ ∈ lw_gd := List.mem_filter.mpr ⟨List.mem_of_getElem? (i := 597) (by decide +kernel), by decide +kernel⟩
theorem qk_601 : Cond.methodLink RX5 78 ⟨"java/lang/IllegalArgumentException", "<init>", "(Ljava/lang/String;)V"⟩ ∈ lw_gd := List.mem_filter.mpr ⟨List.mem_of_getElem? (i := 601) (by decide +kernel), by decide +kernel⟩
theorem qk_602 : Cond.instanceMethod ⟨"java/lang/IllegalArgumentException", "<init>", "(Ljava/lang/String;)V"⟩ ∈ lw_gd := List.mem_filter.mpr ⟨List.mem_of_getElem? (i := 602) (by decide +kernel), by decide +kernel⟩
theorem qk_605 : Cond.instanceMethod ⟨"java/lang/RuntimeException", "<init>", "(Ljava/lang/String;)V"⟩ ∈ lw_gd := List.mem_filter.mpr ⟨List.mem_of_getElem? (i := 605) (by decide +kernel), by decide +kernel⟩
theorem qk_608 : Cond.instanceMethod ⟨"java/lang/Exception", "<init>", "(Ljava/lang/String;)V"⟩ ∈ lw_gd := List.mem_filter.mpr ⟨List.mem_of_getElem? (i := 608) (by decide +kernel), by decide +kernel⟩
theorem qk_611 : Cond.instanceMethod ⟨"java/lang/Throwable", "<init>", "(Ljava/lang/String;)V"⟩ ∈ lw_gd := List.mem_filter.mpr ⟨List.mem_of_getElem? (i := 611) (by decide +kernel), by decide +kernel⟩
theorem qk_627 : Cond.classLink RX5 79 "java/lang/UnsupportedOperationException" ∈ lw_gd := List.mem_filter.mpr ⟨List.mem_of_getElem? (i := 627) (by decide +kernel), by decide +kernel⟩
theorem qk_630 : Cond.selects "java/lang/UnsupportedOperationException" ⟨"java/lang/Throwable", "fillInStackTrace", "(I)Ljava/lang/Throwable;"⟩ ⟨"java/lang/Throwable", "fillInStackTrace", "(I)Ljava/lang/Throwable;"⟩ ∈ lw_gd := List.mem_filter.mpr ⟨List.mem_of_getElem? (i := 630) (by decide +kernel), by decide +kernel⟩
theorem qk_637 : Cond.methodLink RX5 83 ⟨"java/lang/UnsupportedOperationException", "<init>", "(Ljava/lang/String;)V"⟩ ∈ lw_gd := List.mem_filter.mpr ⟨List.mem_of_getElem? (i := 637) (by decide +kernel), by decide +kernel⟩
theorem qk_638 : Cond.instanceMethod ⟨"java/lang/UnsupportedOperationException", "<init>", "(Ljava/lang/String;)V"⟩ ∈ lw_gd := List.mem_filter.mpr ⟨List.mem_of_getElem? (i := 638) (by decide +kernel), by decide +kernel⟩
theorem qk_643 : Cond.methodLink "QuakeRehearsalLaw" 135 ⟨"QuakeRehearsalLaw", "lamp", "(LQuakeRehearsal;II[J)I"⟩ ∈ lw_gd := List.mem_filter.mpr ⟨List.mem_of_getElem? (i := 643) (by decide +kernel), by decide +kernel⟩
theorem qk_644 : Cond.static ⟨"QuakeRehearsalLaw", "lamp", "(LQuakeRehearsal;II[J)I"⟩ ∈ lw_gd := List.mem_filter.mpr ⟨List.mem_of_getElem? (i := 644) (by decide +kernel), by decide +kernel⟩
theorem qk_646 : Cond.methodLink "QuakeRehearsalLaw" 17 yX5_lamp ∈ lw_gd := List.mem_filter.mpr ⟨List.mem_of_getElem? (i := 646) (by decide +kernel), by decide +kernel⟩
theorem qk_647 : Cond.instanceMethod yX5_lamp ∈ lw_gd := List.mem_filter.mpr ⟨List.mem_of_getElem? (i := 647) (by decide +kernel), by decide +kernel⟩
theorem qk_648 : Cond.selects RX5 yX5_lamp yX5_lamp ∈ lw_gd := List.mem_filter.mpr ⟨List.mem_of_getElem? (i := 648) (by decide +kernel), by decide +kernel⟩
theorem qk_649 : Cond.code yX5_lamp cX5_lamp 3 (some .int) ∈ lw_gd := List.mem_filter.mpr ⟨List.mem_of_getElem? (i := 649) (by decide +kernel), by decide +kernel⟩
theorem qk_650 : Cond.methodLink "QuakeRehearsalLaw" 138 ⟨"QuakeRehearsalLaw", "cat", "(LQuakeRehearsal;II[J)I"⟩ ∈ lw_gd := List.mem_filter.mpr ⟨List.mem_of_getElem? (i := 650) (by decide +kernel), by decide +kernel⟩
theorem qk_651 : Cond.static ⟨"QuakeRehearsalLaw", "cat", "(LQuakeRehearsal;II[J)I"⟩ ∈ lw_gd := List.mem_filter.mpr ⟨List.mem_of_getElem? (i := 651) (by decide +kernel), by decide +kernel⟩
theorem qk_653 : Cond.methodLink "QuakeRehearsalLaw" 20 yX5_cat ∈ lw_gd := List.mem_filter.mpr ⟨List.mem_of_getElem? (i := 653) (by decide +kernel), by decide +kernel⟩
theorem qk_654 : Cond.instanceMethod yX5_cat ∈ lw_gd := List.mem_filter.mpr ⟨List.mem_of_getElem? (i := 654) (by decide +kernel), by decide +kernel⟩
theorem qk_655 : Cond.selects RX5 yX5_cat yX5_cat ∈ lw_gd := List.mem_filter.mpr ⟨List.mem_of_getElem? (i := 655) (by decide +kernel), by decide +kernel⟩
theorem qk_656 : Cond.code yX5_cat cX5_cat 3 (some .int) ∈ lw_gd := List.mem_filter.mpr ⟨List.mem_of_getElem? (i := 656) (by decide +kernel), by decide +kernel⟩
theorem qk_657 : Cond.methodLink "QuakeRehearsalLaw" 141 ⟨"QuakeRehearsalLaw", "take", "(LQuakeRehearsal;I[J)I"⟩ ∈ lw_gd := List.mem_filter.mpr ⟨List.mem_of_getElem? (i := 657) (by decide +kernel), by decide +kernel⟩
theorem qk_658 : Cond.static ⟨"QuakeRehearsalLaw", "take", "(LQuakeRehearsal;I[J)I"⟩ ∈ lw_gd := List.mem_filter.mpr ⟨List.mem_of_getElem? (i := 658) (by decide +kernel), by decide +kernel⟩
theorem qk_660 : Cond.classLink "QuakeRehearsalLaw" 27 "java/lang/IndexOutOfBoundsException" ∈ lw_gd := List.mem_filter.mpr ⟨List.mem_of_getElem? (i := 660) (by decide +kernel), by decide +kernel⟩
theorem qk_662 : Cond.instanceMethod ⟨"java/lang/ArrayIndexOutOfBoundsException", "<init>", "(Ljava/lang/String;)V"⟩ ∈ lw_gd := List.mem_filter.mpr ⟨List.mem_of_getElem? (i := 662) (by decide +kernel), by decide +kernel⟩
theorem qk_665 : Cond.instanceMethod ⟨"java/lang/IndexOutOfBoundsException", "<init>", "(Ljava/lang/String;)V"⟩ ∈ lw_gd := List.mem_filter.mpr ⟨List.mem_of_getElem? (i := 665) (by decide +kernel), by decide +kernel⟩
theorem qk_678 : Cond.selects "java/lang/ArrayIndexOutOfBoundsException" ⟨"java/lang/Throwable", "fillInStackTrace", "(I)Ljava/lang/Throwable;"⟩ ⟨"java/lang/Throwable", "fillInStackTrace", "(I)Ljava/lang/Throwable;"⟩ ∈ lw_gd := List.mem_filter.mpr ⟨List.mem_of_getElem? (i := 678) (by decide +kernel), by decide +kernel⟩
theorem qk_684 : Cond.methodLink "QuakeRehearsalLaw" 23 yX5_take ∈ lw_gd := List.mem_filter.mpr ⟨List.mem_of_getElem? (i := 684) (by decide +kernel), by decide +kernel⟩
theorem qk_685 : Cond.instanceMethod yX5_take ∈ lw_gd := List.mem_filter.mpr ⟨List.mem_of_getElem? (i := 685) (by decide +kernel), by decide +kernel⟩
theorem qk_686 : Cond.selects RX5 yX5_take yX5_take ∈ lw_gd := List.mem_filter.mpr ⟨List.mem_of_getElem? (i := 686) (by decide +kernel), by decide +kernel⟩
theorem qk_687 : Cond.code yX5_take cX5_take 2 (some .int) ∈ lw_gd := List.mem_filter.mpr ⟨List.mem_of_getElem? (i := 687) (by decide +kernel), by decide +kernel⟩
theorem qk_688 : Cond.classLink RX5 67 "java/lang/IndexOutOfBoundsException" ∈ lw_gd := List.mem_filter.mpr ⟨List.mem_of_getElem? (i := 688) (by decide +kernel), by decide +kernel⟩
theorem qk_691 : Cond.selects "java/lang/IndexOutOfBoundsException" ⟨"java/lang/Throwable", "fillInStackTrace", "(I)Ljava/lang/Throwable;"⟩ ⟨"java/lang/Throwable", "fillInStackTrace", "(I)Ljava/lang/Throwable;"⟩ ∈ lw_gd := List.mem_filter.mpr ⟨List.mem_of_getElem? (i := 691) (by decide +kernel), by decide +kernel⟩
theorem qk_698 : Cond.methodLink RX5 71 ⟨"java/lang/IndexOutOfBoundsException", "<init>", "(Ljava/lang/String;)V"⟩ ∈ lw_gd := List.mem_filter.mpr ⟨List.mem_of_getElem? (i := 698) (by decide +kernel), by decide +kernel⟩
theorem qk_701 : Cond.methodLink "QuakeRehearsalLaw" 145 ⟨"QuakeRehearsalLaw", "cue", "(LQuakeRehearsal;II[J)I"⟩ ∈ lw_gd := List.mem_filter.mpr ⟨List.mem_of_getElem? (i := 701) (by decide +kernel), by decide +kernel⟩
theorem qk_702 : Cond.static ⟨"QuakeRehearsalLaw", "cue", "(LQuakeRehearsal;II[J)I"⟩ ∈ lw_gd := List.mem_filter.mpr ⟨List.mem_of_getElem? (i := 702) (by decide +kernel), by decide +kernel⟩
theorem qk_704 : Cond.methodLink "QuakeRehearsalLaw" 29 yX5_cue ∈ lw_gd := List.mem_filter.mpr ⟨List.mem_of_getElem? (i := 704) (by decide +kernel), by decide +kernel⟩
theorem qk_705 : Cond.instanceMethod yX5_cue ∈ lw_gd := List.mem_filter.mpr ⟨List.mem_of_getElem? (i := 705) (by decide +kernel), by decide +kernel⟩
theorem qk_706 : Cond.selects RX5 yX5_cue yX5_cue ∈ lw_gd := List.mem_filter.mpr ⟨List.mem_of_getElem? (i := 706) (by decide +kernel), by decide +kernel⟩
theorem qk_707 : Cond.code yX5_cue cX5_cue 4 (some .int) ∈ lw_gd := List.mem_filter.mpr ⟨List.mem_of_getElem? (i := 707) (by decide +kernel), by decide +kernel⟩
theorem qk_710 : Cond.methodLink "QuakeRehearsalLaw" 148 ⟨"QuakeRehearsalLaw", "set", "(LQuakeRehearsal;I[J)I"⟩ ∈ lw_gd := List.mem_filter.mpr ⟨List.mem_of_getElem? (i := 710) (by decide +kernel), by decide +kernel⟩
theorem qk_711 : Cond.static ⟨"QuakeRehearsalLaw", "set", "(LQuakeRehearsal;I[J)I"⟩ ∈ lw_gd := List.mem_filter.mpr ⟨List.mem_of_getElem? (i := 711) (by decide +kernel), by decide +kernel⟩
theorem qk_713 : Cond.methodLink "QuakeRehearsalLaw" 32 yX5_set ∈ lw_gd := List.mem_filter.mpr ⟨List.mem_of_getElem? (i := 713) (by decide +kernel), by decide +kernel⟩
theorem qk_714 : Cond.instanceMethod yX5_set ∈ lw_gd := List.mem_filter.mpr ⟨List.mem_of_getElem? (i := 714) (by decide +kernel), by decide +kernel⟩
theorem qk_715 : Cond.selects RX5 yX5_set yX5_set ∈ lw_gd := List.mem_filter.mpr ⟨List.mem_of_getElem? (i := 715) (by decide +kernel), by decide +kernel⟩
theorem qk_716 : Cond.code yX5_set cX5_set 2 (some .int) ∈ lw_gd := List.mem_filter.mpr ⟨List.mem_of_getElem? (i := 716) (by decide +kernel), by decide +kernel⟩
theorem qk_717 : Cond.methodLink RX5 84 yX5_strengthTold ∈ lw_gd := List.mem_filter.mpr ⟨List.mem_of_getElem? (i := 717) (by decide +kernel), by decide +kernel⟩
theorem qk_719 : Cond.instanceMethod yX5_strengthTold ∈ lw_gd := List.mem_filter.mpr ⟨List.mem_of_getElem? (i := 719) (by decide +kernel), by decide +kernel⟩
theorem qk_720 : Cond.code yX5_strengthTold cX5_strengthTold 4 (some .int) ∈ lw_gd := List.mem_filter.mpr ⟨List.mem_of_getElem? (i := 720) (by decide +kernel), by decide +kernel⟩
theorem qk_723 : Cond.methodLink "QuakeRehearsalLaw" 155 ⟨"QuakeRehearsalLaw", "add", "(LQuakeRehearsal;I[J)I"⟩ ∈ lw_gd := List.mem_filter.mpr ⟨List.mem_of_getElem? (i := 723) (by decide +kernel), by decide +kernel⟩
theorem qk_724 : Cond.static ⟨"QuakeRehearsalLaw", "add", "(LQuakeRehearsal;I[J)I"⟩ ∈ lw_gd := List.mem_filter.mpr ⟨List.mem_of_getElem? (i := 724) (by decide +kernel), by decide +kernel⟩
theorem qk_726 : Cond.methodLink "QuakeRehearsalLaw" 35 yX5_add ∈ lw_gd := List.mem_filter.mpr ⟨List.mem_of_getElem? (i := 726) (by decide +kernel), by decide +kernel⟩
theorem qk_727 : Cond.instanceMethod yX5_add ∈ lw_gd := List.mem_filter.mpr ⟨List.mem_of_getElem? (i := 727) (by decide +kernel), by decide +kernel⟩
theorem qk_728 : Cond.selects RX5 yX5_add yX5_add ∈ lw_gd := List.mem_filter.mpr ⟨List.mem_of_getElem? (i := 728) (by decide +kernel), by decide +kernel⟩
theorem qk_729 : Cond.code yX5_add cX5_add 2 (some .int) ∈ lw_gd := List.mem_filter.mpr ⟨List.mem_of_getElem? (i := 729) (by decide +kernel), by decide +kernel⟩
theorem qk_730 : Cond.methodLink "QuakeRehearsalLaw" 158 ⟨"QuakeRehearsalLaw", "perform", "(LQuakeRehearsal;[J)I"⟩ ∈ lw_gd := List.mem_filter.mpr ⟨List.mem_of_getElem? (i := 730) (by decide +kernel), by decide +kernel⟩
theorem qk_731 : Cond.static ⟨"QuakeRehearsalLaw", "perform", "(LQuakeRehearsal;[J)I"⟩ ∈ lw_gd := List.mem_filter.mpr ⟨List.mem_of_getElem? (i := 731) (by decide +kernel), by decide +kernel⟩
theorem qk_733 : Cond.methodLink "QuakeRehearsalLaw" 38 yX5_perform ∈ lw_gd := List.mem_filter.mpr ⟨List.mem_of_getElem? (i := 733) (by decide +kernel), by decide +kernel⟩
theorem qk_734 : Cond.instanceMethod yX5_perform ∈ lw_gd := List.mem_filter.mpr ⟨List.mem_of_getElem? (i := 734) (by decide +kernel), by decide +kernel⟩
theorem qk_735 : Cond.selects RX5 yX5_perform yX5_perform ∈ lw_gd := List.mem_filter.mpr ⟨List.mem_of_getElem? (i := 735) (by decide +kernel), by decide +kernel⟩
theorem qk_736 : Cond.code yX5_perform cX5_perform 1 (some .int) ∈ lw_gd := List.mem_filter.mpr ⟨List.mem_of_getElem? (i := 736) (by decide +kernel), by decide +kernel⟩
theorem qk_738 : Cond.methodLink "QuakeRehearsalLaw" 166 ⟨"QuakeRehearsalLaw", "propOf", "(LQuakeRehearsal;II[J)I"⟩ ∈ lw_gd := List.mem_filter.mpr ⟨List.mem_of_getElem? (i := 738) (by decide +kernel), by decide +kernel⟩
theorem qk_739 : Cond.static ⟨"QuakeRehearsalLaw", "propOf", "(LQuakeRehearsal;II[J)I"⟩ ∈ lw_gd := List.mem_filter.mpr ⟨List.mem_of_getElem? (i := 739) (by decide +kernel), by decide +kernel⟩
theorem qk_741 : Cond.methodLink "QuakeRehearsalLaw" 42 yX5_propOf ∈ lw_gd := List.mem_filter.mpr ⟨List.mem_of_getElem? (i := 741) (by decide +kernel), by decide +kernel⟩
theorem qk_742 : Cond.instanceMethod yX5_propOf ∈ lw_gd := List.mem_filter.mpr ⟨List.mem_of_getElem? (i := 742) (by decide +kernel), by decide +kernel⟩
theorem qk_743 : Cond.selects RX5 yX5_propOf yX5_propOf ∈ lw_gd := List.mem_filter.mpr ⟨List.mem_of_getElem? (i := 743) (by decide +kernel), by decide +kernel⟩
theorem qk_744 : Cond.code yX5_propOf cX5_propOf 4 (some .int) ∈ lw_gd := List.mem_filter.mpr ⟨List.mem_of_getElem? (i := 744) (by decide +kernel), by decide +kernel⟩
theorem qk_745 : Cond.methodLink RX5 90 yX5_propNumbered ∈ lw_gd := List.mem_filter.mpr ⟨List.mem_of_getElem? (i := 745) (by decide +kernel), by decide +kernel⟩
theorem qk_747 : Cond.instanceMethod yX5_propNumbered ∈ lw_gd := List.mem_filter.mpr ⟨List.mem_of_getElem? (i := 747) (by decide +kernel), by decide +kernel⟩
theorem qk_748 : Cond.code yX5_propNumbered cX5_propNumbered 2 (some (.object "QuakeRehearsal$Prop")) ∈ lw_gd := List.mem_filter.mpr ⟨List.mem_of_getElem? (i := 748) (by decide +kernel), by decide +kernel⟩
theorem qk_750 : Cond.methodLink "QuakeRehearsalLaw" 169 ⟨"QuakeRehearsalLaw", "programme", "(LQuakeRehearsal;I[J)I"⟩ ∈ lw_gd := List.mem_filter.mpr ⟨List.mem_of_getElem? (i := 750) (by decide +kernel), by decide +kernel⟩
theorem qk_751 : Cond.static ⟨"QuakeRehearsalLaw", "programme", "(LQuakeRehearsal;I[J)I"⟩ ∈ lw_gd := List.mem_filter.mpr ⟨List.mem_of_getElem? (i := 751) (by decide +kernel), by decide +kernel⟩
theorem qk_753 : Cond.classLink "QuakeRehearsalLaw" 48 "java/util/NoSuchElementException" ∈ lw_gd := List.mem_filter.mpr ⟨List.mem_of_getElem? (i := 753) (by decide +kernel), by decide +kernel⟩
theorem qk_754 : Cond.methodLink "QuakeRehearsalLaw" 45 yX5_programme ∈ lw_gd := List.mem_filter.mpr ⟨List.mem_of_getElem? (i := 754) (by decide +kernel), by decide +kernel⟩
theorem qk_755 : Cond.instanceMethod yX5_programme ∈ lw_gd := List.mem_filter.mpr ⟨List.mem_of_getElem? (i := 755) (by decide +kernel), by decide +kernel⟩
theorem qk_756 : Cond.selects RX5 yX5_programme yX5_programme ∈ lw_gd := List.mem_filter.mpr ⟨List.mem_of_getElem? (i := 756) (by decide +kernel), by decide +kernel⟩
theorem qk_757 : Cond.code yX5_programme cX5_programme 2 (some .int) ∈ lw_gd := List.mem_filter.mpr ⟨List.mem_of_getElem? (i := 757) (by decide +kernel), by decide +kernel⟩
theorem qk_758 : Cond.classLink RX5 122 "java/util/NoSuchElementException" ∈ lw_gd := List.mem_filter.mpr ⟨List.mem_of_getElem? (i := 758) (by decide +kernel), by decide +kernel⟩
theorem qk_761 : Cond.selects "java/util/NoSuchElementException" ⟨"java/lang/Throwable", "fillInStackTrace", "(I)Ljava/lang/Throwable;"⟩ ⟨"java/lang/Throwable", "fillInStackTrace", "(I)Ljava/lang/Throwable;"⟩ ∈ lw_gd := List.mem_filter.mpr ⟨List.mem_of_getElem? (i := 761) (by decide +kernel), by decide +kernel⟩
theorem qk_768 : Cond.methodLink RX5 126 ⟨"java/util/NoSuchElementException", "<init>", "(Ljava/lang/String;)V"⟩ ∈ lw_gd := List.mem_filter.mpr ⟨List.mem_of_getElem? (i := 768) (by decide +kernel), by decide +kernel⟩
theorem qk_769 : Cond.instanceMethod ⟨"java/util/NoSuchElementException", "<init>", "(Ljava/lang/String;)V"⟩ ∈ lw_gd := List.mem_filter.mpr ⟨List.mem_of_getElem? (i := 769) (by decide +kernel), by decide +kernel⟩
theorem qk_774 : Cond.methodLink RX5 127 yX0_plannedAt ∈ lw_gd := List.mem_filter.mpr ⟨List.mem_of_getElem? (i := 774) (by decide +kernel), by decide +kernel⟩
theorem qk_775 : Cond.methodLink "QuakeRehearsalLaw" 172 ⟨"QuakeRehearsalLaw", "on", "(LQuakeRehearsal;IIZ[J)I"⟩ ∈ lw_gd := List.mem_filter.mpr ⟨List.mem_of_getElem? (i := 775) (by decide +kernel), by decide +kernel⟩
theorem qk_776 : Cond.static ⟨"QuakeRehearsalLaw", "on", "(LQuakeRehearsal;IIZ[J)I"⟩ ∈ lw_gd := List.mem_filter.mpr ⟨List.mem_of_getElem? (i := 776) (by decide +kernel), by decide +kernel⟩
theorem qk_778 : Cond.methodLink "QuakeRehearsalLaw" 50 yX5_on ∈ lw_gd := List.mem_filter.mpr ⟨List.mem_of_getElem? (i := 778) (by decide +kernel), by decide +kernel⟩
theorem qk_779 : Cond.instanceMethod yX5_on ∈ lw_gd := List.mem_filter.mpr ⟨List.mem_of_getElem? (i := 779) (by decide +kernel), by decide +kernel⟩
theorem qk_780 : Cond.selects RX5 yX5_on yX5_on ∈ lw_gd := List.mem_filter.mpr ⟨List.mem_of_getElem? (i := 780) (by decide +kernel), by decide +kernel⟩
theorem qk_781 : Cond.code yX5_on cX5_on 4 (some .int) ∈ lw_gd := List.mem_filter.mpr ⟨List.mem_of_getElem? (i := 781) (by decide +kernel), by decide +kernel⟩
theorem qk_783 : Cond.methodLink "QuakeRehearsalLaw" 176 ⟨"QuakeRehearsalLaw", "wouldMark", "(LQuakeRehearsal;I[J)I"⟩ ∈ lw_gd := List.mem_filter.mpr ⟨List.mem_of_getElem? (i := 783) (by decide +kernel), by decide +kernel⟩
theorem qk_784 : Cond.static ⟨"QuakeRehearsalLaw", "wouldMark", "(LQuakeRehearsal;I[J)I"⟩ ∈ lw_gd := List.mem_filter.mpr ⟨List.mem_of_getElem? (i := 784) (by decide +kernel), by decide +kernel⟩
theorem qk_786 : Cond.methodLink "QuakeRehearsalLaw" 54 yX5_wouldMark ∈ lw_gd := List.mem_filter.mpr ⟨List.mem_of_getElem? (i := 786) (by decide +kernel), by decide +kernel⟩
theorem qk_787 : Cond.instanceMethod yX5_wouldMark ∈ lw_gd := List.mem_filter.mpr ⟨List.mem_of_getElem? (i := 787) (by decide +kernel), by decide +kernel⟩
theorem qk_788 : Cond.selects RX5 yX5_wouldMark yX5_wouldMark ∈ lw_gd := List.mem_filter.mpr ⟨List.mem_of_getElem? (i := 788) (by decide +kernel), by decide +kernel⟩
theorem qk_789 : Cond.code yX5_wouldMark cX5_wouldMark 2 (some .int) ∈ lw_gd := List.mem_filter.mpr ⟨List.mem_of_getElem? (i := 789) (by decide +kernel), by decide +kernel⟩
theorem qk_790 : Cond.methodLink RX5 146 yX5_requireStrength ∈ lw_gd := List.mem_filter.mpr ⟨List.mem_of_getElem? (i := 790) (by decide +kernel), by decide +kernel⟩
theorem qk_791 : Cond.static yX5_requireStrength ∈ lw_gd := List.mem_filter.mpr ⟨List.mem_of_getElem? (i := 791) (by decide +kernel), by decide +kernel⟩
theorem qk_792 : Cond.code yX5_requireStrength cX5_requireStrength 1 (none) ∈ lw_gd := List.mem_filter.mpr ⟨List.mem_of_getElem? (i := 792) (by decide +kernel), by decide +kernel⟩
theorem qk_793 : Cond.methodLink "QuakeRehearsalLaw" 179 ⟨"QuakeRehearsalLaw", "wouldBreak", "(LQuakeRehearsal;IZ[J)I"⟩ ∈ lw_gd := List.mem_filter.mpr ⟨List.mem_of_getElem? (i := 793) (by decide +kernel), by decide +kernel⟩
theorem qk_794 : Cond.static ⟨"QuakeRehearsalLaw", "wouldBreak", "(LQuakeRehearsal;IZ[J)I"⟩ ∈ lw_gd := List.mem_filter.mpr ⟨List.mem_of_getElem? (i := 794) (by decide +kernel), by decide +kernel⟩
theorem qk_796 : Cond.methodLink "QuakeRehearsalLaw" 57 yX5_wouldBreak ∈ lw_gd := List.mem_filter.mpr ⟨List.mem_of_getElem? (i := 796) (by decide +kernel), by decide +kernel⟩
theorem qk_797 : Cond.instanceMethod yX5_wouldBreak ∈ lw_gd := List.mem_filter.mpr ⟨List.mem_of_getElem? (i := 797) (by decide +kernel), by decide +kernel⟩
theorem qk_798 : Cond.selects RX5 yX5_wouldBreak yX5_wouldBreak ∈ lw_gd := List.mem_filter.mpr ⟨List.mem_of_getElem? (i := 798) (by decide +kernel), by decide +kernel⟩
theorem qk_799 : Cond.code yX5_wouldBreak cX5_wouldBreak 3 (some .int) ∈ lw_gd := List.mem_filter.mpr ⟨List.mem_of_getElem? (i := 799) (by decide +kernel), by decide +kernel⟩
theorem qk_800 : Cond.methodLink "QuakeRehearsalLaw" 191 ⟨"QuakeRehearsalLaw", "leastBreaking", "(LQuakeRehearsal;[J)I"⟩ ∈ lw_gd := List.mem_filter.mpr ⟨List.mem_of_getElem? (i := 800) (by decide +kernel), by decide +kernel⟩
theorem qk_801 : Cond.static ⟨"QuakeRehearsalLaw", "leastBreaking", "(LQuakeRehearsal;[J)I"⟩ ∈ lw_gd := List.mem_filter.mpr ⟨List.mem_of_getElem? (i := 801) (by decide +kernel), by decide +kernel⟩
theorem qk_803 : Cond.methodLink "QuakeRehearsalLaw" 61 yX5_leastBreaking ∈ lw_gd := List.mem_filter.mpr ⟨List.mem_of_getElem? (i := 803) (by decide +kernel), by decide +kernel⟩
theorem qk_804 : Cond.instanceMethod yX5_leastBreaking ∈ lw_gd := List.mem_filter.mpr ⟨List.mem_of_getElem? (i := 804) (by decide +kernel), by decide +kernel⟩
theorem qk_805 : Cond.selects RX5 yX5_leastBreaking yX5_leastBreaking ∈ lw_gd := List.mem_filter.mpr ⟨List.mem_of_getElem? (i := 805) (by decide +kernel), by decide +kernel⟩
theorem qk_806 : Cond.code yX5_leastBreaking cX5_leastBreaking 2 (some .int) ∈ lw_gd := List.mem_filter.mpr ⟨List.mem_of_getElem? (i := 806) (by decide +kernel), by decide +kernel⟩
theorem qk_808 : Cond.methodLink "QuakeRehearsalLaw" 194 ⟨"QuakeRehearsalLaw", "shocksFor", "(LQuakeRehearsal;I[J)I"⟩ ∈ lw_gd := List.mem_filter.mpr ⟨List.mem_of_getElem? (i := 808) (by decide +kernel), by decide +kernel⟩
theorem qk_809 : Cond.static ⟨"QuakeRehearsalLaw", "shocksFor", "(LQuakeRehearsal;I[J)I"⟩ ∈ lw_gd := List.mem_filter.mpr ⟨List.mem_of_getElem? (i := 809) (by decide +kernel), by decide +kernel⟩
theorem qk_811 : Cond.methodLink "QuakeRehearsalLaw" 64 yX5_shocksFor ∈ lw_gd := List.mem_filter.mpr ⟨List.mem_of_getElem? (i := 811) (by decide +kernel), by decide +kernel⟩
theorem qk_812 : Cond.instanceMethod yX5_shocksFor ∈ lw_gd := List.mem_filter.mpr ⟨List.mem_of_getElem? (i := 812) (by decide +kernel), by decide +kernel⟩
theorem qk_813 : Cond.selects RX5 yX5_shocksFor yX5_shocksFor ∈ lw_gd := List.mem_filter.mpr ⟨List.mem_of_getElem? (i := 813) (by decide +kernel), by decide +kernel⟩
theorem qk_814 : Cond.code yX5_shocksFor cX5_shocksFor 3 (some .int) ∈ lw_gd := List.mem_filter.mpr ⟨List.mem_of_getElem? (i := 814) (by decide +kernel), by decide +kernel⟩
theorem qk_815 : Cond.methodLink "QuakeRehearsalLaw" 197 ⟨"QuakeRehearsalLaw", "isBroken", "(LQuakeRehearsal;I[J)I"⟩ ∈ lw_gd := List.mem_filter.mpr ⟨List.mem_of_getElem? (i := 815) (by decide +kernel), by decide +kernel⟩
theorem qk_816 : Cond.static ⟨"QuakeRehearsalLaw", "isBroken", "(LQuakeRehearsal;I[J)I"⟩ ∈ lw_gd := List.mem_filter.mpr ⟨List.mem_of_getElem? (i := 816) (by decide +kernel), by decide +kernel⟩
theorem qk_818 : Cond.methodLink "QuakeRehearsalLaw" 67 yX5_isBroken ∈ lw_gd := List.mem_filter.mpr ⟨List.mem_of_getElem? (i := 818) (by decide +kernel), by decide +kernel⟩
theorem qk_819 : Cond.instanceMethod yX5_isBroken ∈ lw_gd := List.mem_filter.mpr ⟨List.mem_of_getElem? (i := 819) (by decide +kernel), by decide +kernel⟩
theorem qk_820 : Cond.selects RX5 yX5_isBroken yX5_isBroken ∈ lw_gd := List.mem_filter.mpr ⟨List.mem_of_getElem? (i := 820) (by decide +kernel), by decide +kernel⟩
theorem qk_821 : Cond.code yX5_isBroken cX5_isBroken 2 (some .boolean) ∈ lw_gd := List.mem_filter.mpr ⟨List.mem_of_getElem? (i := 821) (by decide +kernel), by decide +kernel⟩
theorem qk_822 : Cond.methodLink "QuakeRehearsalLaw" 200 ⟨"QuakeRehearsalLaw", "cupAt", "(LQuakeRehearsal;I[J)I"⟩ ∈ lw_gd := List.mem_filter.mpr ⟨List.mem_of_getElem? (i := 822) (by decide +kernel), by decide +kernel⟩
theorem qk_823 : Cond.static ⟨"QuakeRehearsalLaw", "cupAt", "(LQuakeRehearsal;I[J)I"⟩ ∈ lw_gd := List.mem_filter.mpr ⟨List.mem_of_getElem? (i := 823) (by decide +kernel), by decide +kernel⟩
theorem qk_825 : Cond.methodLink "QuakeRehearsalLaw" 71 yX5_cupAt ∈ lw_gd := List.mem_filter.mpr ⟨List.mem_of_getElem? (i := 825) (by decide +kernel), by decide +kernel⟩
theorem qk_826 : Cond.instanceMethod yX5_cupAt ∈ lw_gd := List.mem_filter.mpr ⟨List.mem_of_getElem? (i := 826) (by decide +kernel), by decide +kernel⟩
theorem qk_827 : Cond.selects RX5 yX5_cupAt yX5_cupAt ∈ lw_gd := List.mem_filter.mpr ⟨List.mem_of_getElem? (i := 827) (by decide +kernel), by decide +kernel⟩
theorem qk_828 : Cond.code yX5_cupAt cX5_cupAt 2 (some .int) ∈ lw_gd := List.mem_filter.mpr ⟨List.mem_of_getElem? (i := 828) (by decide +kernel), by decide +kernel⟩
theorem qk_829 : Cond.methodLink RX5 181 yX5_numberInOrder ∈ lw_gd := List.mem_filter.mpr ⟨List.mem_of_getElem? (i := 829) (by decide +kernel), by decide +kernel⟩
theorem qk_831 : Cond.instanceMethod yX5_numberInOrder ∈ lw_gd := List.mem_filter.mpr ⟨List.mem_of_getElem? (i := 831) (by decide +kernel), by decide +kernel⟩
theorem qk_832 : Cond.code yX5_numberInOrder cX5_numberInOrder 4 (some .int) ∈ lw_gd := List.mem_filter.mpr ⟨List.mem_of_getElem? (i := 832) (by decide +kernel), by decide +kernel⟩
theorem qk_833 : Cond.methodLink RX5 302 yX0_numberInOrder ∈ lw_gd := List.mem_filter.mpr ⟨List.mem_of_getElem? (i := 833) (by decide +kernel), by decide +kernel⟩
theorem qk_834 : Cond.instanceMethod yX0_numberInOrder ∈ lw_gd := List.mem_filter.mpr ⟨List.mem_of_getElem? (i := 834) (by decide +kernel), by decide +kernel⟩
theorem qk_835 : Cond.selects RX0 yX0_numberInOrder yX0_numberInOrder ∈ lw_gd := List.mem_filter.mpr ⟨List.mem_of_getElem? (i := 835) (by decide +kernel), by decide +kernel⟩
theorem qk_836 : Cond.code yX0_numberInOrder cX0_numberInOrder 4 (some .int) ∈ lw_gd := List.mem_filter.mpr ⟨List.mem_of_getElem? (i := 836) (by decide +kernel), by decide +kernel⟩
theorem qk_837 : Cond.methodLink RX0 151 yX0_countAhead ∈ lw_gd := List.mem_filter.mpr ⟨List.mem_of_getElem? (i := 837) (by decide +kernel), by decide +kernel⟩
theorem qk_838 : Cond.instanceMethod yX0_countAhead ∈ lw_gd := List.mem_filter.mpr ⟨List.mem_of_getElem? (i := 838) (by decide +kernel), by decide +kernel⟩
theorem qk_839 : Cond.selects RX0 yX0_countAhead yX0_countAhead ∈ lw_gd := List.mem_filter.mpr ⟨List.mem_of_getElem? (i := 839) (by decide +kernel), by decide +kernel⟩
theorem qk_840 : Cond.code yX0_countAhead cX0_countAhead 7 (some .int) ∈ lw_gd := List.mem_filter.mpr ⟨List.mem_of_getElem? (i := 840) (by decide +kernel), by decide +kernel⟩
theorem qk_841 : Cond.methodLink RX0 154 yX3_orderTo ∈ lw_gd := List.mem_filter.mpr ⟨List.mem_of_getElem? (i := 841) (by decide +kernel), by decide +kernel⟩
theorem qk_842 : Cond.instanceMethod yX3_orderTo ∈ lw_gd := List.mem_filter.mpr ⟨List.mem_of_getElem? (i := 842) (by decide +kernel), by decide +kernel⟩
theorem qk_843 : Cond.selects RX3 yX3_orderTo yX3_orderTo ∈ lw_gd := List.mem_filter.mpr ⟨List.mem_of_getElem? (i := 843) (by decide +kernel), by decide +kernel⟩
theorem qk_844 : Cond.code yX3_orderTo cX3_orderTo 3 (some .int) ∈ lw_gd := List.mem_filter.mpr ⟨List.mem_of_getElem? (i := 844) (by decide +kernel), by decide +kernel⟩
theorem qk_845 : Cond.methodLink RX3 44 yJ6_compare_7cf53 ∈ lw_gd := List.mem_filter.mpr ⟨List.mem_of_getElem? (i := 845) (by decide +kernel), by decide +kernel⟩
theorem qk_846 : Cond.static yJ6_compare_7cf53 ∈ lw_gd := List.mem_filter.mpr ⟨List.mem_of_getElem? (i := 846) (by decide +kernel), by decide +kernel⟩
theorem qk_847 : Cond.code yJ6_compare_7cf53 cJ6_compare_7cf53 2 (some .int) ∈ lw_gd := List.mem_filter.mpr ⟨List.mem_of_getElem? (i := 847) (by decide +kernel), by decide +kernel⟩
theorem qk_849 : Cond.methodLink "QuakeRehearsalLaw" 203 ⟨"QuakeRehearsalLaw", "lampAt", "(LQuakeRehearsal;I[J)I"⟩ ∈ lw_gd := List.mem_filter.mpr ⟨List.mem_of_getElem? (i := 849) (by decide +kernel), by decide +kernel⟩
theorem qk_850 : Cond.static ⟨"QuakeRehearsalLaw", "lampAt", "(LQuakeRehearsal;I[J)I"⟩ ∈ lw_gd := List.mem_filter.mpr ⟨List.mem_of_getElem? (i := 850) (by decide +kernel), by decide +kernel⟩
theorem qk_852 : Cond.methodLink "QuakeRehearsalLaw" 74 yX5_lampAt ∈ lw_gd := List.mem_filter.mpr ⟨List.mem_of_getElem? (i := 852) (by decide +kernel), by decide +kernel⟩
theorem qk_853 : Cond.instanceMethod yX5_lampAt ∈ lw_gd := List.mem_filter.mpr ⟨List.mem_of_getElem? (i := 853) (by decide +kernel), by decide +kernel⟩
theorem qk_854 : Cond.selects RX5 yX5_lampAt yX5_lampAt ∈ lw_gd := List.mem_filter.mpr ⟨List.mem_of_getElem? (i := 854) (by decide +kernel), by decide +kernel⟩
theorem qk_855 : Cond.code yX5_lampAt cX5_lampAt 2 (some .int) ∈ lw_gd := List.mem_filter.mpr ⟨List.mem_of_getElem? (i := 855) (by decide +kernel), by decide +kernel⟩
theorem qk_856 : Cond.methodLink "QuakeRehearsalLaw" 206 ⟨"QuakeRehearsalLaw", "catAt", "(LQuakeRehearsal;I[J)I"⟩ ∈ lw_gd := List.mem_filter.mpr ⟨List.mem_of_getElem? (i := 856) (by decide +kernel), by decide +kernel⟩
theorem qk_857 : Cond.static ⟨"QuakeRehearsalLaw", "catAt", "(LQuakeRehearsal;I[J)I"⟩ ∈ lw_gd := List.mem_filter.mpr ⟨List.mem_of_getElem? (i := 857) (by decide +kernel), by decide +kernel⟩
theorem qk_859 : Cond.methodLink "QuakeRehearsalLaw" 77 yX5_catAt ∈ lw_gd := List.mem_filter.mpr ⟨List.mem_of_getElem? (i := 859) (by decide +kernel), by decide +kernel⟩
theorem qk_860 : Cond.instanceMethod yX5_catAt ∈ lw_gd := List.mem_filter.mpr ⟨List.mem_of_getElem? (i := 860) (by decide +kernel), by decide +kernel⟩
theorem qk_861 : Cond.selects RX5 yX5_catAt yX5_catAt ∈ lw_gd := List.mem_filter.mpr ⟨List.mem_of_getElem? (i := 861) (by decide +kernel), by decide +kernel⟩
theorem qk_862 : Cond.code yX5_catAt cX5_catAt 2 (some .int) ∈ lw_gd := List.mem_filter.mpr ⟨List.mem_of_getElem? (i := 862) (by decide +kernel), by decide +kernel⟩
theorem qk_863 : Cond.methodLink "QuakeRehearsalLaw" 209 ⟨"QuakeRehearsalLaw", "onFloor", "(LQuakeRehearsal;II[J)I"⟩ ∈ lw_gd := List.mem_filter.mpr ⟨List.mem_of_getElem? (i := 863) (by decide +kernel), by decide +kernel⟩
theorem qk_864 : Cond.static ⟨"QuakeRehearsalLaw", "onFloor", "(LQuakeRehearsal;II[J)I"⟩ ∈ lw_gd := List.mem_filter.mpr ⟨List.mem_of_getElem? (i := 864) (by decide +kernel), by decide +kernel⟩
theorem qk_866 : Cond.methodLink "QuakeRehearsalLaw" 80 yX5_onFloor ∈ lw_gd := List.mem_filter.mpr ⟨List.mem_of_getElem? (i := 866) (by decide +kernel), by decide +kernel⟩
theorem qk_867 : Cond.instanceMethod yX5_onFloor ∈ lw_gd := List.mem_filter.mpr ⟨List.mem_of_getElem? (i := 867) (by decide +kernel), by decide +kernel⟩
theorem qk_868 : Cond.selects RX5 yX5_onFloor yX5_onFloor ∈ lw_gd := List.mem_filter.mpr ⟨List.mem_of_getElem? (i := 868) (by decide +kernel), by decide +kernel⟩
theorem qk_869 : Cond.code yX5_onFloor cX5_onFloor 3 (some .int) ∈ lw_gd := List.mem_filter.mpr ⟨List.mem_of_getElem? (i := 869) (by decide +kernel), by decide +kernel⟩
theorem qk_871 : Cond.methodLink "QuakeRehearsalLaw" 212 ⟨"QuakeRehearsalLaw", "line", "(LQuakeRehearsal;I[J)I"⟩ ∈ lw_gd := List.mem_filter.mpr ⟨List.mem_of_getElem? (i := 871) (by decide +kernel), by decide +kernel⟩
theorem qk_872 : Cond.static ⟨"QuakeRehearsalLaw", "line", "(LQuakeRehearsal;I[J)I"⟩ ∈ lw_gd := List.mem_filter.mpr ⟨List.mem_of_getElem? (i := 872) (by decide +kernel), by decide +kernel⟩
theorem qk_874 : Cond.methodLink "QuakeRehearsalLaw" 83 yX5_line ∈ lw_gd := List.mem_filter.mpr ⟨List.mem_of_getElem? (i := 874) (by decide +kernel), by decide +kernel⟩
theorem qk_875 : Cond.instanceMethod yX5_line ∈ lw_gd := List.mem_filter.mpr ⟨List.mem_of_getElem? (i := 875) (by decide +kernel), by decide +kernel⟩
theorem qk_876 : Cond.selects RX5 yX5_line yX5_line ∈ lw_gd := List.mem_filter.mpr ⟨List.mem_of_getElem? (i := 876) (by decide +kernel), by decide +kernel⟩
theorem qk_877 : Cond.code yX5_line cX5_line 2 (some .int) ∈ lw_gd := List.mem_filter.mpr ⟨List.mem_of_getElem? (i := 877) (by decide +kernel), by decide +kernel⟩
theorem qk_878 : Cond.methodLink RX5 189 yX2_writeProp ∈ lw_gd := List.mem_filter.mpr ⟨List.mem_of_getElem? (i := 878) (by decide +kernel), by decide +kernel⟩
theorem qk_879 : Cond.instanceMethod yX2_writeProp ∈ lw_gd := List.mem_filter.mpr ⟨List.mem_of_getElem? (i := 879) (by decide +kernel), by decide +kernel⟩
theorem qk_880 : Cond.selects RX2 yX2_writeProp yX2_writeProp ∈ lw_gd := List.mem_filter.mpr ⟨List.mem_of_getElem? (i := 880) (by decide +kernel), by decide +kernel⟩
theorem qk_881 : Cond.code yX2_writeProp cX2_writeProp 3 (none) ∈ lw_gd := List.mem_filter.mpr ⟨List.mem_of_getElem? (i := 881) (by decide +kernel), by decide +kernel⟩
theorem qk_882 : Cond.methodLink "QuakeRehearsalLaw" 219 ⟨"QuakeRehearsalLaw", "character", "(LQuakeRehearsal;I[J)I"⟩ ∈ lw_gd := List.mem_filter.mpr ⟨List.mem_of_getElem? (i := 882) (by decide +kernel), by decide +kernel⟩
theorem qk_883 : Cond.static ⟨"QuakeRehearsalLaw", "character", "(LQuakeRehearsal;I[J)I"⟩ ∈ lw_gd := List.mem_filter.mpr ⟨List.mem_of_getElem? (i := 883) (by decide +kernel), by decide +kernel⟩
theorem qk_885 : Cond.methodLink "QuakeRehearsalLaw" 86 yX5_character ∈ lw_gd := List.mem_filter.mpr ⟨List.mem_of_getElem? (i := 885) (by decide +kernel), by decide +kernel⟩
theorem qk_886 : Cond.instanceMethod yX5_character ∈ lw_gd := List.mem_filter.mpr ⟨List.mem_of_getElem? (i := 886) (by decide +kernel), by decide +kernel⟩
theorem qk_887 : Cond.selects RX5 yX5_character yX5_character ∈ lw_gd := List.mem_filter.mpr ⟨List.mem_of_getElem? (i := 887) (by decide +kernel), by decide +kernel⟩
theorem qk_888 : Cond.code yX5_character cX5_character 2 (some .char) ∈ lw_gd := List.mem_filter.mpr ⟨List.mem_of_getElem? (i := 888) (by decide +kernel), by decide +kernel⟩
theorem qk_890 : Cond.methodLink RX5 201 yX2_signAt ∈ lw_gd := List.mem_filter.mpr ⟨List.mem_of_getElem? (i := 890) (by decide +kernel), by decide +kernel⟩
theorem qk_891 : Cond.instanceMethod yX2_signAt ∈ lw_gd := List.mem_filter.mpr ⟨List.mem_of_getElem? (i := 891) (by decide +kernel), by decide +kernel⟩
theorem qk_892 : Cond.selects RX2 yX2_signAt yX2_signAt ∈ lw_gd := List.mem_filter.mpr ⟨List.mem_of_getElem? (i := 892) (by decide +kernel), by decide +kernel⟩
theorem qk_893 : Cond.code yX2_signAt cX2_signAt 2 (some .char) ∈ lw_gd := List.mem_filter.mpr ⟨List.mem_of_getElem? (i := 893) (by decide +kernel), by decide +kernel⟩
theorem qk_894 : Cond.methodLink "QuakeRehearsalLaw" 222 ⟨"QuakeRehearsalLaw", "append", "(LQuakeRehearsal;C[J)I"⟩ ∈ lw_gd := List.mem_filter.mpr ⟨List.mem_of_getElem? (i := 894) (by decide +kernel), by decide +kernel⟩
theorem qk_895 : Cond.static ⟨"QuakeRehearsalLaw", "append", "(LQuakeRehearsal;C[J)I"⟩ ∈ lw_gd := List.mem_filter.mpr ⟨List.mem_of_getElem? (i := 895) (by decide +kernel), by decide +kernel⟩
theorem qk_897 : Cond.classLink "QuakeRehearsalLaw" 94 "java/lang/IllegalStateException" ∈ lw_gd := List.mem_filter.mpr ⟨List.mem_of_getElem? (i := 897) (by decide +kernel), by decide +kernel⟩
theorem qk_898 : Cond.methodLink "QuakeRehearsalLaw" 90 yX5_append ∈ lw_gd := List.mem_filter.mpr ⟨List.mem_of_getElem? (i := 898) (by decide +kernel), by decide +kernel⟩
theorem qk_899 : Cond.instanceMethod yX5_append ∈ lw_gd := List.mem_filter.mpr ⟨List.mem_of_getElem? (i := 899) (by decide +kernel), by decide +kernel⟩
theorem qk_900 : Cond.selects RX5 yX5_append yX5_append ∈ lw_gd := List.mem_filter.mpr ⟨List.mem_of_getElem? (i := 900) (by decide +kernel), by decide +kernel⟩
theorem qk_901 : Cond.code yX5_append cX5_append 2 (some .int) ∈ lw_gd := List.mem_filter.mpr ⟨List.mem_of_getElem? (i := 901) (by decide +kernel), by decide +kernel⟩
theorem qk_902 : Cond.classLink RX5 206 "java/lang/IllegalStateException" ∈ lw_gd := List.mem_filter.mpr ⟨List.mem_of_getElem? (i := 902) (by decide +kernel), by decide +kernel⟩
theorem qk_905 : Cond.selects "java/lang/IllegalStateException" ⟨"java/lang/Throwable", "fillInStackTrace", "(I)Ljava/lang/Throwable;"⟩ ⟨"java/lang/Throwable", "fillInStackTrace", "(I)Ljava/lang/Throwable;"⟩ ∈ lw_gd := List.mem_filter.mpr ⟨List.mem_of_getElem? (i := 905) (by decide +kernel), by decide +kernel⟩
theorem qk_912 : Cond.methodLink RX5 210 ⟨"java/lang/IllegalStateException", "<init>", "(Ljava/lang/String;)V"⟩ ∈ lw_gd := List.mem_filter.mpr ⟨List.mem_of_getElem? (i := 912) (by decide +kernel), by decide +kernel⟩
theorem qk_913 : Cond.instanceMethod ⟨"java/lang/IllegalStateException", "<init>", "(Ljava/lang/String;)V"⟩ ∈ lw_gd := List.mem_filter.mpr ⟨List.mem_of_getElem? (i := 913) (by decide +kernel), by decide +kernel⟩
theorem qk_918 : Cond.methodLink RX5 211 yX4_put ∈ lw_gd := List.mem_filter.mpr ⟨List.mem_of_getElem? (i := 918) (by decide +kernel), by decide +kernel⟩
theorem qk_919 : Cond.instanceMethod yX4_put ∈ lw_gd := List.mem_filter.mpr ⟨List.mem_of_getElem? (i := 919) (by decide +kernel), by decide +kernel⟩
theorem qk_920 : Cond.selects RX4 yX4_put yX4_put ∈ lw_gd := List.mem_filter.mpr ⟨List.mem_of_getElem? (i := 920) (by decide +kernel), by decide +kernel⟩
theorem qk_921 : Cond.code yX4_put cX4_put 2 (none) ∈ lw_gd := List.mem_filter.mpr ⟨List.mem_of_getElem? (i := 921) (by decide +kernel), by decide +kernel⟩
theorem qk_922 : Cond.methodLink "QuakeRehearsalLaw" 226 ⟨"QuakeRehearsalLaw", "run", "(LQuakeRehearsal;[J)I"⟩ ∈ lw_gd := List.mem_filter.mpr ⟨List.mem_of_getElem? (i := 922) (by decide +kernel), by decide +kernel⟩
theorem qk_923 : Cond.static ⟨"QuakeRehearsalLaw", "run", "(LQuakeRehearsal;[J)I"⟩ ∈ lw_gd := List.mem_filter.mpr ⟨List.mem_of_getElem? (i := 923) (by decide +kernel), by decide +kernel⟩
theorem qk_925 : Cond.methodLink "QuakeRehearsalLaw" 96 yX5_run ∈ lw_gd := List.mem_filter.mpr ⟨List.mem_of_getElem? (i := 925) (by decide +kernel), by decide +kernel⟩
theorem qk_926 : Cond.instanceMethod yX5_run ∈ lw_gd := List.mem_filter.mpr ⟨List.mem_of_getElem? (i := 926) (by decide +kernel), by decide +kernel⟩
theorem qk_927 : Cond.selects RX5 yX5_run yX5_run ∈ lw_gd := List.mem_filter.mpr ⟨List.mem_of_getElem? (i := 927) (by decide +kernel), by decide +kernel⟩
theorem qk_928 : Cond.code yX5_run cX5_run 3 (some .int) ∈ lw_gd := List.mem_filter.mpr ⟨List.mem_of_getElem? (i := 928) (by decide +kernel), by decide +kernel⟩
theorem qk_929 : Cond.methodLink RX5 215 yX4_read ∈ lw_gd := List.mem_filter.mpr ⟨List.mem_of_getElem? (i := 929) (by decide +kernel), by decide +kernel⟩
theorem qk_930 : Cond.instanceMethod yX4_read ∈ lw_gd := List.mem_filter.mpr ⟨List.mem_of_getElem? (i := 930) (by decide +kernel), by decide +kernel⟩
theorem qk_931 : Cond.selects RX4 yX4_read yX4_read ∈ lw_gd := List.mem_filter.mpr ⟨List.mem_of_getElem? (i := 931) (by decide +kernel), by decide +kernel⟩
theorem qk_932 : Cond.code yX4_read cX4_read 2 (some .int) ∈ lw_gd := List.mem_filter.mpr ⟨List.mem_of_getElem? (i := 932) (by decide +kernel), by decide +kernel⟩
theorem qk_933 : Cond.methodLink RX4 35 yX4_readOrder ∈ lw_gd := List.mem_filter.mpr ⟨List.mem_of_getElem? (i := 933) (by decide +kernel), by decide +kernel⟩
theorem qk_934 : Cond.instanceMethod yX4_readOrder ∈ lw_gd := List.mem_filter.mpr ⟨List.mem_of_getElem? (i := 934) (by decide +kernel), by decide +kernel⟩
theorem qk_935 : Cond.selects RX4 yX4_readOrder yX4_readOrder ∈ lw_gd := List.mem_filter.mpr ⟨List.mem_of_getElem? (i := 935) (by decide +kernel), by decide +kernel⟩
theorem qk_936 : Cond.code yX4_readOrder cX4_readOrder 4 (some .boolean) ∈ lw_gd := List.mem_filter.mpr ⟨List.mem_of_getElem? (i := 936) (by decide +kernel), by decide +kernel⟩
theorem qk_937 : Cond.methodLink RX4 43 yX4_readWord ∈ lw_gd := List.mem_filter.mpr ⟨List.mem_of_getElem? (i := 937) (by decide +kernel), by decide +kernel⟩
theorem qk_938 : Cond.instanceMethod yX4_readWord ∈ lw_gd := List.mem_filter.mpr ⟨List.mem_of_getElem? (i := 938) (by decide +kernel), by decide +kernel⟩
theorem qk_939 : Cond.selects RX4 yX4_readWord yX4_readWord ∈ lw_gd := List.mem_filter.mpr ⟨List.mem_of_getElem? (i := 939) (by decide +kernel), by decide +kernel⟩
theorem qk_940 : Cond.code yX4_readWord cX4_readWord 5 (some .int) ∈ lw_gd := List.mem_filter.mpr ⟨List.mem_of_getElem? (i := 940) (by decide +kernel), by decide +kernel⟩
theorem qk_941 : Cond.methodLink RX4 51 yX4_nameOf ∈ lw_gd := List.mem_filter.mpr ⟨List.mem_of_getElem? (i := 941) (by decide +kernel), by decide +kernel⟩
theorem qk_942 : Cond.static yX4_nameOf ∈ lw_gd := List.mem_filter.mpr ⟨List.mem_of_getElem? (i := 942) (by decide +kernel), by decide +kernel⟩
theorem qk_943 : Cond.code yX4_nameOf cX4_nameOf 1 (some (.object "java/lang/String")) ∈ lw_gd := List.mem_filter.mpr ⟨List.mem_of_getElem? (i := 943) (by decide +kernel), by decide +kernel⟩
theorem qk_954 : Cond.methodLink RX4 55 yX4_countAlike ∈ lw_gd := List.mem_filter.mpr ⟨List.mem_of_getElem? (i := 954) (by decide +kernel), by decide +kernel⟩
theorem qk_955 : Cond.instanceMethod yX4_countAlike ∈ lw_gd := List.mem_filter.mpr ⟨List.mem_of_getElem? (i := 955) (by decide +kernel), by decide +kernel⟩
theorem qk_956 : Cond.selects RX4 yX4_countAlike yX4_countAlike ∈ lw_gd := List.mem_filter.mpr ⟨List.mem_of_getElem? (i := 956) (by decide +kernel), by decide +kernel⟩
theorem qk_957 : Cond.code yX4_countAlike cX4_countAlike 3 (some .int) ∈ lw_gd := List.mem_filter.mpr ⟨List.mem_of_getElem? (i := 957) (by decide +kernel), by decide +kernel⟩
theorem qk_958 : Cond.methodLink RX4 59 ⟨"java/lang/String", "length", "()I"⟩ ∈ lw_gd := List.mem_filter.mpr ⟨List.mem_of_getElem? (i := 958) (by decide +kernel), by decide +kernel⟩
theorem qk_959 : Cond.instanceMethod ⟨"java/lang/String", "length", "()I"⟩ ∈ lw_gd := List.mem_filter.mpr ⟨List.mem_of_getElem? (i := 959) (by decide +kernel), by decide +kernel⟩
theorem qk_960 : Cond.selects "java/lang/String" ⟨"java/lang/String", "length", "()I"⟩ ⟨"java/lang/String", "length", "()I"⟩ ∈ lw_gd := List.mem_filter.mpr ⟨List.mem_of_getElem? (i := 960) (by decide +kernel), by decide +kernel⟩
theorem qk_963 : Cond.instanceMethod ⟨"java/lang/String", "coder", "()B"⟩ ∈ lw_gd := List.mem_filter.mpr ⟨List.mem_of_getElem? (i := 963) (by decide +kernel), by decide +kernel⟩
theorem qk_964 : Cond.selects "java/lang/String" ⟨"java/lang/String", "coder", "()B"⟩ ⟨"java/lang/String", "coder", "()B"⟩ ∈ lw_gd := List.mem_filter.mpr ⟨List.mem_of_getElem? (i := 964) (by decide +kernel), by decide +kernel⟩
theorem qk_968 : Cond.methodLink RX4 63 ⟨"java/lang/String", "charAt", "(I)C"⟩ ∈ lw_gd := List.mem_filter.mpr ⟨List.mem_of_getElem? (i := 968) (by decide +kernel), by decide +kernel⟩
theorem qk_969 : Cond.instanceMethod ⟨"java/lang/String", "charAt", "(I)C"⟩ ∈ lw_gd := List.mem_filter.mpr ⟨List.mem_of_getElem? (i := 969) (by decide +kernel), by decide +kernel⟩
theorem qk_970 : Cond.selects "java/lang/String" ⟨"java/lang/String", "charAt", "(I)C"⟩ ⟨"java/lang/String", "charAt", "(I)C"⟩ ∈ lw_gd := List.mem_filter.mpr ⟨List.mem_of_getElem? (i := 970) (by decide +kernel), by decide +kernel⟩
theorem qk_973 : Cond.instanceMethod ⟨"java/lang/String", "isLatin1", "()Z"⟩ ∈ lw_gd := List.mem_filter.mpr ⟨List.mem_of_getElem? (i := 973) (by decide +kernel), by decide +kernel⟩
theorem qk_974 : Cond.selects "java/lang/String" ⟨"java/lang/String", "isLatin1", "()Z"⟩ ⟨"java/lang/String", "isLatin1", "()Z"⟩ ∈ lw_gd := List.mem_filter.mpr ⟨List.mem_of_getElem? (i := 974) (by decide +kernel), by decide +kernel⟩
theorem qk_977 : Cond.static ⟨"java/lang/StringLatin1", "charAt", "([BI)C"⟩ ∈ lw_gd := List.mem_filter.mpr ⟨List.mem_of_getElem? (i := 977) (by decide +kernel), by decide +kernel⟩
theorem qk_980 : Cond.static ⟨"java/lang/String", "checkIndex", "(II)V"⟩ ∈ lw_gd := List.mem_filter.mpr ⟨List.mem_of_getElem? (i := 980) (by decide +kernel), by decide +kernel⟩
theorem qk_985 : Cond.static ⟨"jdk/internal/util/Preconditions", "checkIndex", "(IILjava/util/function/BiFunction;)I"⟩ ∈ lw_gd := List.mem_filter.mpr ⟨List.mem_of_getElem? (i := 985) (by decide +kernel), by decide +kernel⟩
theorem qk_988 : Cond.static ⟨"java/lang/StringUTF16", "charAt", "([BI)C"⟩ ∈ lw_gd := List.mem_filter.mpr ⟨List.mem_of_getElem? (i := 988) (by decide +kernel), by decide +kernel⟩
theorem qk_991 : Cond.static ⟨"java/lang/StringUTF16", "checkIndex", "(I[B)V"⟩ ∈ lw_gd := List.mem_filter.mpr ⟨List.mem_of_getElem? (i := 991) (by decide +kernel), by decide +kernel⟩
theorem qk_994 : Cond.static ⟨"java/lang/StringUTF16", "length", "([B)I"⟩ ∈ lw_gd := List.mem_filter.mpr ⟨List.mem_of_getElem? (i := 994) (by decide +kernel), by decide +kernel⟩
theorem qk_998 : Cond.static ⟨"java/lang/StringUTF16", "getChar", "([BI)C"⟩ ∈ lw_gd := List.mem_filter.mpr ⟨List.mem_of_getElem? (i := 998) (by decide +kernel), by decide +kernel⟩
theorem qk_1006 : Cond.methodLink RX4 67 yX4_isNext ∈ lw_gd := List.mem_filter.mpr ⟨List.mem_of_getElem? (i := 1006) (by decide +kernel), by decide +kernel⟩
theorem qk_1007 : Cond.instanceMethod yX4_isNext ∈ lw_gd := List.mem_filter.mpr ⟨List.mem_of_getElem? (i := 1007) (by decide +kernel), by decide +kernel⟩
theorem qk_1008 : Cond.selects RX4 yX4_isNext yX4_isNext ∈ lw_gd := List.mem_filter.mpr ⟨List.mem_of_getElem? (i := 1008) (by decide +kernel), by decide +kernel⟩
theorem qk_1009 : Cond.code yX4_isNext cX4_isNext 3 (some .boolean) ∈ lw_gd := List.mem_filter.mpr ⟨List.mem_of_getElem? (i := 1009) (by decide +kernel), by decide +kernel⟩
theorem qk_1010 : Cond.methodLink RX4 47 yX4_readNumber ∈ lw_gd := List.mem_filter.mpr ⟨List.mem_of_getElem? (i := 1010) (by decide +kernel), by decide +kernel⟩
theorem qk_1011 : Cond.instanceMethod yX4_readNumber ∈ lw_gd := List.mem_filter.mpr ⟨List.mem_of_getElem? (i := 1011) (by decide +kernel), by decide +kernel⟩
theorem qk_1012 : Cond.selects RX4 yX4_readNumber yX4_readNumber ∈ lw_gd := List.mem_filter.mpr ⟨List.mem_of_getElem? (i := 1012) (by decide +kernel), by decide +kernel⟩
theorem qk_1013 : Cond.code yX4_readNumber cX4_readNumber 4 (some .int) ∈ lw_gd := List.mem_filter.mpr ⟨List.mem_of_getElem? (i := 1013) (by decide +kernel), by decide +kernel⟩
theorem qk_1014 : Cond.methodLink RX4 39 yX4_readSign ∈ lw_gd := List.mem_filter.mpr ⟨List.mem_of_getElem? (i := 1014) (by decide +kernel), by decide +kernel⟩
theorem qk_1015 : Cond.instanceMethod yX4_readSign ∈ lw_gd := List.mem_filter.mpr ⟨List.mem_of_getElem? (i := 1015) (by decide +kernel), by decide +kernel⟩
theorem qk_1016 : Cond.selects RX4 yX4_readSign yX4_readSign ∈ lw_gd := List.mem_filter.mpr ⟨List.mem_of_getElem? (i := 1016) (by decide +kernel), by decide +kernel⟩
theorem qk_1017 : Cond.code yX4_readSign cX4_readSign 2 (some .boolean) ∈ lw_gd := List.mem_filter.mpr ⟨List.mem_of_getElem? (i := 1017) (by decide +kernel), by decide +kernel⟩
theorem qk_1018 : Cond.methodLink RX4 71 yX4_readDigit ∈ lw_gd := List.mem_filter.mpr ⟨List.mem_of_getElem? (i := 1018) (by decide +kernel), by decide +kernel⟩
theorem qk_1019 : Cond.instanceMethod yX4_readDigit ∈ lw_gd := List.mem_filter.mpr ⟨List.mem_of_getElem? (i := 1019) (by decide +kernel), by decide +kernel⟩
theorem qk_1020 : Cond.selects RX4 yX4_readDigit yX4_readDigit ∈ lw_gd := List.mem_filter.mpr ⟨List.mem_of_getElem? (i := 1020) (by decide +kernel), by decide +kernel⟩
theorem qk_1021 : Cond.code yX4_readDigit cX4_readDigit 2 (some .int) ∈ lw_gd := List.mem_filter.mpr ⟨List.mem_of_getElem? (i := 1021) (by decide +kernel), by decide +kernel⟩
theorem qk_1023 : Cond.methodLink RX5 226 yX4_wordAt ∈ lw_gd := List.mem_filter.mpr ⟨List.mem_of_getElem? (i := 1023) (by decide +kernel), by decide +kernel⟩
theorem qk_1024 : Cond.instanceMethod yX4_wordAt ∈ lw_gd := List.mem_filter.mpr ⟨List.mem_of_getElem? (i := 1024) (by decide +kernel), by decide +kernel⟩
theorem qk_1025 : Cond.selects RX4 yX4_wordAt yX4_wordAt ∈ lw_gd := List.mem_filter.mpr ⟨List.mem_of_getElem? (i := 1025) (by decide +kernel), by decide +kernel⟩
theorem qk_1026 : Cond.code yX4_wordAt cX4_wordAt 2 (some .int) ∈ lw_gd := List.mem_filter.mpr ⟨List.mem_of_getElem? (i := 1026) (by decide +kernel), by decide +kernel⟩
theorem qk_1027 : Cond.methodLink RX5 229 yX4_firstAt ∈ lw_gd := List.mem_filter.mpr ⟨List.mem_of_getElem? (i := 1027) (by decide +kernel), by decide +kernel⟩
theorem qk_1028 : Cond.instanceMethod yX4_firstAt ∈ lw_gd := List.mem_filter.mpr ⟨List.mem_of_getElem? (i := 1028) (by decide +kernel), by decide +kernel⟩
theorem qk_1029 : Cond.selects RX4 yX4_firstAt yX4_firstAt ∈ lw_gd := List.mem_filter.mpr ⟨List.mem_of_getElem? (i := 1029) (by decide +kernel), by decide +kernel⟩
theorem qk_1030 : Cond.code yX4_firstAt cX4_firstAt 2 (some .int) ∈ lw_gd := List.mem_filter.mpr ⟨List.mem_of_getElem? (i := 1030) (by decide +kernel), by decide +kernel⟩
theorem qk_1031 : Cond.methodLink RX5 232 yX4_secondAt ∈ lw_gd := List.mem_filter.mpr ⟨List.mem_of_getElem? (i := 1031) (by decide +kernel), by decide +kernel⟩
theorem qk_1032 : Cond.instanceMethod yX4_secondAt ∈ lw_gd := List.mem_filter.mpr ⟨List.mem_of_getElem? (i := 1032) (by decide +kernel), by decide +kernel⟩
theorem qk_1033 : Cond.selects RX4 yX4_secondAt yX4_secondAt ∈ lw_gd := List.mem_filter.mpr ⟨List.mem_of_getElem? (i := 1033) (by decide +kernel), by decide +kernel⟩
theorem qk_1034 : Cond.code yX4_secondAt cX4_secondAt 2 (some .int) ∈ lw_gd := List.mem_filter.mpr ⟨List.mem_of_getElem? (i := 1034) (by decide +kernel), by decide +kernel⟩
theorem qk_1035 : Cond.methodLink RX5 241 yX1_copyNoteTo ∈ lw_gd := List.mem_filter.mpr ⟨List.mem_of_getElem? (i := 1035) (by decide +kernel), by decide +kernel⟩
theorem qk_1036 : Cond.instanceMethod yX1_copyNoteTo ∈ lw_gd := List.mem_filter.mpr ⟨List.mem_of_getElem? (i := 1036) (by decide +kernel), by decide +kernel⟩
theorem qk_1037 : Cond.selects RX1 yX1_copyNoteTo yX1_copyNoteTo ∈ lw_gd := List.mem_filter.mpr ⟨List.mem_of_getElem? (i := 1037) (by decide +kernel), by decide +kernel⟩
theorem qk_1038 : Cond.code yX1_copyNoteTo cX1_copyNoteTo 3 (none) ∈ lw_gd := List.mem_filter.mpr ⟨List.mem_of_getElem? (i := 1038) (by decide +kernel), by decide +kernel⟩
theorem qk_1041 : Cond.methodLink "QuakeRehearsalLaw" 233 ⟨"QuakeRehearsalLaw", "refusal", "(LQuakeRehearsal;Z[J)I"⟩ ∈ lw_gd := List.mem_filter.mpr ⟨List.mem_of_getElem? (i := 1041) (by decide +kernel), by decide +kernel⟩
theorem qk_1042 : Cond.static ⟨"QuakeRehearsalLaw", "refusal", "(LQuakeRehearsal;Z[J)I"⟩ ∈ lw_gd := List.mem_filter.mpr ⟨List.mem_of_getElem? (i := 1042) (by decide +kernel), by decide +kernel⟩
theorem qk_1044 : Cond.methodLink "QuakeRehearsalLaw" 99 yX5_refusal ∈ lw_gd := List.mem_filter.mpr ⟨List.mem_of_getElem? (i := 1044) (by decide +kernel), by decide +kernel⟩
theorem qk_1045 : Cond.instanceMethod yX5_refusal ∈ lw_gd := List.mem_filter.mpr ⟨List.mem_of_getElem? (i := 1045) (by decide +kernel), by decide +kernel⟩
theorem qk_1046 : Cond.selects RX5 yX5_refusal yX5_refusal ∈ lw_gd := List.mem_filter.mpr ⟨List.mem_of_getElem? (i := 1046) (by decide +kernel), by decide +kernel⟩
theorem qk_1047 : Cond.code yX5_refusal cX5_refusal 2 (some .int) ∈ lw_gd := List.mem_filter.mpr ⟨List.mem_of_getElem? (i := 1047) (by decide +kernel), by decide +kernel⟩
theorem qk_1049 : Cond.methodLink "QuakeRehearsalLaw" 237 ⟨"QuakeRehearsalLaw", "account", "(LQuakeRehearsal;I[J)I"⟩ ∈ lw_gd := List.mem_filter.mpr ⟨List.mem_of_getElem? (i := 1049) (by decide +kernel), by decide +kernel⟩
theorem qk_1050 : Cond.static ⟨"QuakeRehearsalLaw", "account", "(LQuakeRehearsal;I[J)I"⟩ ∈ lw_gd := List.mem_filter.mpr ⟨List.mem_of_getElem? (i := 1050) (by decide +kernel), by decide +kernel⟩
theorem qk_1052 : Cond.methodLink "QuakeRehearsalLaw" 103 yX5_account ∈ lw_gd := List.mem_filter.mpr ⟨List.mem_of_getElem? (i := 1052) (by decide +kernel), by decide +kernel⟩
theorem qk_1053 : Cond.instanceMethod yX5_account ∈ lw_gd := List.mem_filter.mpr ⟨List.mem_of_getElem? (i := 1053) (by decide +kernel), by decide +kernel⟩
theorem qk_1054 : Cond.selects RX5 yX5_account yX5_account ∈ lw_gd := List.mem_filter.mpr ⟨List.mem_of_getElem? (i := 1054) (by decide +kernel), by decide +kernel⟩
theorem qk_1055 : Cond.code yX5_account cX5_account 2 (some .int) ∈ lw_gd := List.mem_filter.mpr ⟨List.mem_of_getElem? (i := 1055) (by decide +kernel), by decide +kernel⟩
theorem qk_1056 : Cond.methodLink RX5 253 yX0_countOf ∈ lw_gd := List.mem_filter.mpr ⟨List.mem_of_getElem? (i := 1056) (by decide +kernel), by decide +kernel⟩
theorem qk_1057 : Cond.methodLink RX5 256 yX0_countBroken ∈ lw_gd := List.mem_filter.mpr ⟨List.mem_of_getElem? (i := 1057) (by decide +kernel), by decide +kernel⟩
theorem qk_1058 : Cond.instanceMethod yX0_countBroken ∈ lw_gd := List.mem_filter.mpr ⟨List.mem_of_getElem? (i := 1058) (by decide +kernel), by decide +kernel⟩
theorem qk_1059 : Cond.selects RX0 yX0_countBroken yX0_countBroken ∈ lw_gd := List.mem_filter.mpr ⟨List.mem_of_getElem? (i := 1059) (by decide +kernel), by decide +kernel⟩
theorem qk_1060 : Cond.code yX0_countBroken cX0_countBroken 3 (some .int) ∈ lw_gd := List.mem_filter.mpr ⟨List.mem_of_getElem? (i := 1060) (by decide +kernel), by decide +kernel⟩
theorem qk_1062 : Cond.methodLink "QuakeRehearsalLaw" 245 ⟨"QuakeRehearsalLaw", "meanGrade", "(LQuakeRehearsal;[D)I"⟩ ∈ lw_gd := List.mem_filter.mpr ⟨List.mem_of_getElem? (i := 1062) (by decide +kernel), by decide +kernel⟩
theorem qk_1063 : Cond.static ⟨"QuakeRehearsalLaw", "meanGrade", "(LQuakeRehearsal;[D)I"⟩ ∈ lw_gd := List.mem_filter.mpr ⟨List.mem_of_getElem? (i := 1063) (by decide +kernel), by decide +kernel⟩
theorem qk_1065 : Cond.classLink "QuakeRehearsalLaw" 110 "java/lang/ArithmeticException" ∈ lw_gd := List.mem_filter.mpr ⟨List.mem_of_getElem? (i := 1065) (by decide +kernel), by decide +kernel⟩
theorem qk_1067 : Cond.instanceMethod ⟨"java/lang/ArithmeticException", "<init>", "(Ljava/lang/String;)V"⟩ ∈ lw_gd := List.mem_filter.mpr ⟨List.mem_of_getElem? (i := 1067) (by decide +kernel), by decide +kernel⟩
theorem qk_1078 : Cond.selects "java/lang/ArithmeticException" ⟨"java/lang/Throwable", "fillInStackTrace", "(I)Ljava/lang/Throwable;"⟩ ⟨"java/lang/Throwable", "fillInStackTrace", "(I)Ljava/lang/Throwable;"⟩ ∈ lw_gd := List.mem_filter.mpr ⟨List.mem_of_getElem? (i := 1078) (by decide +kernel), by decide +kernel⟩
theorem qk_1079 : Cond.methodLink "QuakeRehearsalLaw" 106 yX5_meanGrade ∈ lw_gd := List.mem_filter.mpr ⟨List.mem_of_getElem? (i := 1079) (by decide +kernel), by decide +kernel⟩
theorem qk_1080 : Cond.instanceMethod yX5_meanGrade ∈ lw_gd := List.mem_filter.mpr ⟨List.mem_of_getElem? (i := 1080) (by decide +kernel), by decide +kernel⟩
theorem qk_1081 : Cond.selects RX5 yX5_meanGrade yX5_meanGrade ∈ lw_gd := List.mem_filter.mpr ⟨List.mem_of_getElem? (i := 1081) (by decide +kernel), by decide +kernel⟩
theorem qk_1082 : Cond.code yX5_meanGrade cX5_meanGrade 2 (some .double) ∈ lw_gd := List.mem_filter.mpr ⟨List.mem_of_getElem? (i := 1082) (by decide +kernel), by decide +kernel⟩
theorem qk_1083 : Cond.classLink RX5 283 "java/lang/ArithmeticException" ∈ lw_gd := List.mem_filter.mpr ⟨List.mem_of_getElem? (i := 1083) (by decide +kernel), by decide +kernel⟩
theorem qk_1085 : Cond.methodLink RX5 287 ⟨"java/lang/ArithmeticException", "<init>", "(Ljava/lang/String;)V"⟩ ∈ lw_gd := List.mem_filter.mpr ⟨List.mem_of_getElem? (i := 1085) (by decide +kernel), by decide +kernel⟩
theorem qk_1086 : Cond.methodLink RX5 288 yX0_sumOfGrades ∈ lw_gd := List.mem_filter.mpr ⟨List.mem_of_getElem? (i := 1086) (by decide +kernel), by decide +kernel⟩
theorem qk_1087 : Cond.instanceMethod yX0_sumOfGrades ∈ lw_gd := List.mem_filter.mpr ⟨List.mem_of_getElem? (i := 1087) (by decide +kernel), by decide +kernel⟩
theorem qk_1088 : Cond.selects RX0 yX0_sumOfGrades yX0_sumOfGrades ∈ lw_gd := List.mem_filter.mpr ⟨List.mem_of_getElem? (i := 1088) (by decide +kernel), by decide +kernel⟩
theorem qk_1089 : Cond.code yX0_sumOfGrades cX0_sumOfGrades 4 (some .int) ∈ lw_gd := List.mem_filter.mpr ⟨List.mem_of_getElem? (i := 1089) (by decide +kernel), by decide +kernel⟩
theorem qk_1090 : Cond.methodLink "QuakeRehearsalLaw" 249 ⟨"QuakeRehearsalLaw", "brokenShare", "(LQuakeRehearsal;[D)I"⟩ ∈ lw_gd := List.mem_filter.mpr ⟨List.mem_of_getElem? (i := 1090) (by decide +kernel), by decide +kernel⟩
theorem qk_1091 : Cond.static ⟨"QuakeRehearsalLaw", "brokenShare", "(LQuakeRehearsal;[D)I"⟩ ∈ lw_gd := List.mem_filter.mpr ⟨List.mem_of_getElem? (i := 1091) (by decide +kernel), by decide +kernel⟩
theorem qk_1093 : Cond.methodLink "QuakeRehearsalLaw" 112 yX5_brokenShare ∈ lw_gd := List.mem_filter.mpr ⟨List.mem_of_getElem? (i := 1093) (by decide +kernel), by decide +kernel⟩
theorem qk_1094 : Cond.instanceMethod yX5_brokenShare ∈ lw_gd := List.mem_filter.mpr ⟨List.mem_of_getElem? (i := 1094) (by decide +kernel), by decide +kernel⟩
theorem qk_1095 : Cond.selects RX5 yX5_brokenShare yX5_brokenShare ∈ lw_gd := List.mem_filter.mpr ⟨List.mem_of_getElem? (i := 1095) (by decide +kernel), by decide +kernel⟩
theorem qk_1096 : Cond.code yX5_brokenShare cX5_brokenShare 1 (some .float) ∈ lw_gd := List.mem_filter.mpr ⟨List.mem_of_getElem? (i := 1096) (by decide +kernel), by decide +kernel⟩
theorem qk_1098 : Cond.methodLink "QuakeRehearsalLaw" 252 ⟨"QuakeRehearsalLaw", "undo", "(LQuakeRehearsal;[J)I"⟩ ∈ lw_gd := List.mem_filter.mpr ⟨List.mem_of_getElem? (i := 1098) (by decide +kernel), by decide +kernel⟩
theorem qk_1099 : Cond.static ⟨"QuakeRehearsalLaw", "undo", "(LQuakeRehearsal;[J)I"⟩ ∈ lw_gd := List.mem_filter.mpr ⟨List.mem_of_getElem? (i := 1099) (by decide +kernel), by decide +kernel⟩
theorem qk_1101 : Cond.methodLink "QuakeRehearsalLaw" 116 yX5_undo ∈ lw_gd := List.mem_filter.mpr ⟨List.mem_of_getElem? (i := 1101) (by decide +kernel), by decide +kernel⟩
theorem qk_1102 : Cond.instanceMethod yX5_undo ∈ lw_gd := List.mem_filter.mpr ⟨List.mem_of_getElem? (i := 1102) (by decide +kernel), by decide +kernel⟩
theorem qk_1103 : Cond.selects RX5 yX5_undo yX5_undo ∈ lw_gd := List.mem_filter.mpr ⟨List.mem_of_getElem? (i := 1103) (by decide +kernel), by decide +kernel⟩
theorem qk_1104 : Cond.code yX5_undo cX5_undo 1 (some .int) ∈ lw_gd := List.mem_filter.mpr ⟨List.mem_of_getElem? (i := 1104) (by decide +kernel), by decide +kernel⟩
theorem qk_1106 : Cond.methodLink RX5 295 yX1_stepBack ∈ lw_gd := List.mem_filter.mpr ⟨List.mem_of_getElem? (i := 1106) (by decide +kernel), by decide +kernel⟩
theorem qk_1107 : Cond.instanceMethod yX1_stepBack ∈ lw_gd := List.mem_filter.mpr ⟨List.mem_of_getElem? (i := 1107) (by decide +kernel), by decide +kernel⟩
theorem qk_1108 : Cond.selects RX1 yX1_stepBack yX1_stepBack ∈ lw_gd := List.mem_filter.mpr ⟨List.mem_of_getElem? (i := 1108) (by decide +kernel), by decide +kernel⟩
theorem qk_1109 : Cond.code yX1_stepBack cX1_stepBack 2 (none) ∈ lw_gd := List.mem_filter.mpr ⟨List.mem_of_getElem? (i := 1109) (by decide +kernel), by decide +kernel⟩
theorem qk_1110 : Cond.methodLink RX1 29 yX1_copyNoteTo ∈ lw_gd := List.mem_filter.mpr ⟨List.mem_of_getElem? (i := 1110) (by decide +kernel), by decide +kernel⟩
theorem qk_1111 : Cond.methodLink "QuakeRehearsalLaw" 259 ⟨"QuakeRehearsalLaw", "restore", "(LQuakeRehearsal;[J)I"⟩ ∈ lw_gd := List.mem_filter.mpr ⟨List.mem_of_getElem? (i := 1111) (by decide +kernel), by decide +kernel⟩
theorem qk_1112 : Cond.static ⟨"QuakeRehearsalLaw", "restore", "(LQuakeRehearsal;[J)I"⟩ ∈ lw_gd := List.mem_filter.mpr ⟨List.mem_of_getElem? (i := 1112) (by decide +kernel), by decide +kernel⟩
theorem qk_1114 : Cond.methodLink "QuakeRehearsalLaw" 119 yX5_restore ∈ lw_gd := List.mem_filter.mpr ⟨List.mem_of_getElem? (i := 1114) (by decide +kernel), by decide +kernel⟩
theorem qk_1115 : Cond.instanceMethod yX5_restore ∈ lw_gd := List.mem_filter.mpr ⟨List.mem_of_getElem? (i := 1115) (by decide +kernel), by decide +kernel⟩
theorem qk_1116 : Cond.selects RX5 yX5_restore yX5_restore ∈ lw_gd := List.mem_filter.mpr ⟨List.mem_of_getElem? (i := 1116) (by decide +kernel), by decide +kernel⟩
theorem qk_1117 : Cond.code yX5_restore cX5_restore 1 (some .int) ∈ lw_gd := List.mem_filter.mpr ⟨List.mem_of_getElem? (i := 1117) (by decide +kernel), by decide +kernel⟩
theorem qk_1119 : Cond.classLink "QuakeRehearsalLaw" 123 "QuakeRehearsalModel" ∈ lw_gd := List.mem_filter.mpr ⟨List.mem_of_getElem? (i := 1119) (by decide +kernel), by decide +kernel⟩
theorem qk_1121 : Cond.methodLink "QuakeRehearsalLaw" 125 yX6_init ∈ lw_gd := List.mem_filter.mpr ⟨List.mem_of_getElem? (i := 1121) (by decide +kernel), by decide +kernel⟩
theorem qk_1122 : Cond.instanceMethod yX6_init ∈ lw_gd := List.mem_filter.mpr ⟨List.mem_of_getElem? (i := 1122) (by decide +kernel), by decide +kernel⟩
theorem qk_1123 : Cond.code yX6_init cX6_init 1 (none) ∈ lw_gd := List.mem_filter.mpr ⟨List.mem_of_getElem? (i := 1123) (by decide +kernel), by decide +kernel⟩
theorem qk_1124 : Cond.methodLink RX6 3 ⟨"java/lang/Object", "<init>", "()V"⟩ ∈ lw_gd := List.mem_filter.mpr ⟨List.mem_of_getElem? (i := 1124) (by decide +kernel), by decide +kernel⟩
theorem qk_1125 : Cond.fieldLink RX6 9 "QuakeRehearsalModel" "s" "[I" ∈ lw_gd := List.mem_filter.mpr ⟨List.mem_of_getElem? (i := 1125) (by decide +kernel), by decide +kernel⟩
theorem qk_1126 : Cond.fieldLink RX6 13 "QuakeRehearsalModel" "before" "[I" ∈ lw_gd := List.mem_filter.mpr ⟨List.mem_of_getElem? (i := 1126) (by decide +kernel), by decide +kernel⟩
theorem qk_1127 : Cond.fieldLink RX6 16 "QuakeRehearsalModel" "aside" "[I" ∈ lw_gd := List.mem_filter.mpr ⟨List.mem_of_getElem? (i := 1127) (by decide +kernel), by decide +kernel⟩
theorem qk_1128 : Cond.fieldLink RX6 19 "QuakeRehearsalModel" "saved" "[I" ∈ lw_gd := List.mem_filter.mpr ⟨List.mem_of_getElem? (i := 1128) (by decide +kernel), by decide +kernel⟩
theorem qk_1129 : Cond.fieldLink RX6 252 "QuakeRehearsalModel" "isSaved" "Z" ∈ lw_gd := List.mem_filter.mpr ⟨List.mem_of_getElem? (i := 1129) (by decide +kernel), by decide +kernel⟩
theorem qk_1130 : Cond.fieldLink RX6 22 "QuakeRehearsalModel" "past" "[I" ∈ lw_gd := List.mem_filter.mpr ⟨List.mem_of_getElem? (i := 1130) (by decide +kernel), by decide +kernel⟩
theorem qk_1131 : Cond.fieldLink RX6 48 "QuakeRehearsalModel" "pastMany" "I" ∈ lw_gd := List.mem_filter.mpr ⟨List.mem_of_getElem? (i := 1131) (by decide +kernel), by decide +kernel⟩
theorem qk_1132 : Cond.fieldLink RX6 39 "QuakeRehearsalModel" "thrown" "I" ∈ lw_gd := List.mem_filter.mpr ⟨List.mem_of_getElem? (i := 1132) (by decide +kernel), by decide +kernel⟩
theorem qk_1133 : Cond.fieldLink RX6 55 "QuakeRehearsalModel" "reason" "I" ∈ lw_gd := List.mem_filter.mpr ⟨List.mem_of_getElem? (i := 1133) (by decide +kernel), by decide +kernel⟩
theorem qk_1134 : Cond.fieldLink RX6 58 "QuakeRehearsalModel" "detail" "I" ∈ lw_gd := List.mem_filter.mpr ⟨List.mem_of_getElem? (i := 1134) (by decide +kernel), by decide +kernel⟩
theorem qk_1135 : Cond.fieldLink RX6 51 "QuakeRehearsalModel" "isRefused" "Z" ∈ lw_gd := List.mem_filter.mpr ⟨List.mem_of_getElem? (i := 1135) (by decide +kernel), by decide +kernel⟩
theorem qk_1136 : Cond.fieldLink RX6 120 "QuakeRehearsalModel" "brokeMany" "I" ∈ lw_gd := List.mem_filter.mpr ⟨List.mem_of_getElem? (i := 1136) (by decide +kernel), by decide +kernel⟩
theorem qk_1137 : Cond.fieldLink RX6 25 "QuakeRehearsalModel" "line" "[C" ∈ lw_gd := List.mem_filter.mpr ⟨List.mem_of_getElem? (i := 1137) (by decide +kernel), by decide +kernel⟩
theorem qk_1138 : Cond.fieldLink RX6 169 "QuakeRehearsalModel" "lineMany" "I" ∈ lw_gd := List.mem_filter.mpr ⟨List.mem_of_getElem? (i := 1138) (by decide +kernel), by decide +kernel⟩
theorem qk_1139 : Cond.fieldLink RX6 29 "QuakeRehearsalModel" "text" "[C" ∈ lw_gd := List.mem_filter.mpr ⟨List.mem_of_getElem? (i := 1139) (by decide +kernel), by decide +kernel⟩
theorem qk_1140 : Cond.fieldLink RX6 191 "QuakeRehearsalModel" "length" "I" ∈ lw_gd := List.mem_filter.mpr ⟨List.mem_of_getElem? (i := 1140) (by decide +kernel), by decide +kernel⟩
theorem qk_1141 : Cond.fieldLink RX6 197 "QuakeRehearsalModel" "at" "I" ∈ lw_gd := List.mem_filter.mpr ⟨List.mem_of_getElem? (i := 1141) (by decide +kernel), by decide +kernel⟩
theorem qk_1142 : Cond.fieldLink RX6 194 "QuakeRehearsalModel" "isWrong" "Z" ∈ lw_gd := List.mem_filter.mpr ⟨List.mem_of_getElem? (i := 1142) (by decide +kernel), by decide +kernel⟩
theorem qk_1143 : Cond.fieldLink RX6 32 "QuakeRehearsalModel" "errorAt" "I" ∈ lw_gd := List.mem_filter.mpr ⟨List.mem_of_getElem? (i := 1143) (by decide +kernel), by decide +kernel⟩
theorem qk_1144 : Cond.fieldLink RX6 36 "QuakeRehearsalModel" "orders" "[I" ∈ lw_gd := List.mem_filter.mpr ⟨List.mem_of_getElem? (i := 1144) (by decide +kernel), by decide +kernel⟩
theorem qk_1145 : Cond.fieldLink RX6 232 "QuakeRehearsalModel" "orderMany" "I" ∈ lw_gd := List.mem_filter.mpr ⟨List.mem_of_getElem? (i := 1145) (by decide +kernel), by decide +kernel⟩
theorem qk_1189 : Cond.methodLink "QuakeRehearsalLaw" 132 yX6_thrown ∈ lw_gd := List.mem_filter.mpr ⟨List.mem_of_getElem? (i := 1189) (by decide +kernel), by decide +kernel⟩
theorem qk_1190 : Cond.instanceMethod yX6_thrown ∈ lw_gd := List.mem_filter.mpr ⟨List.mem_of_getElem? (i := 1190) (by decide +kernel), by decide +kernel⟩
theorem qk_1191 : Cond.selects RX6 yX6_thrown yX6_thrown ∈ lw_gd := List.mem_filter.mpr ⟨List.mem_of_getElem? (i := 1191) (by decide +kernel), by decide +kernel⟩
theorem qk_1192 : Cond.code yX6_thrown cX6_thrown 1 (some .int) ∈ lw_gd := List.mem_filter.mpr ⟨List.mem_of_getElem? (i := 1192) (by decide +kernel), by decide +kernel⟩
theorem qk_1193 : Cond.methodLink "QuakeRehearsalLaw" 236 yX6_refusal ∈ lw_gd := List.mem_filter.mpr ⟨List.mem_of_getElem? (i := 1193) (by decide +kernel), by decide +kernel⟩
theorem qk_1194 : Cond.instanceMethod yX6_refusal ∈ lw_gd := List.mem_filter.mpr ⟨List.mem_of_getElem? (i := 1194) (by decide +kernel), by decide +kernel⟩
theorem qk_1195 : Cond.selects RX6 yX6_refusal yX6_refusal ∈ lw_gd := List.mem_filter.mpr ⟨List.mem_of_getElem? (i := 1195) (by decide +kernel), by decide +kernel⟩
theorem qk_1196 : Cond.code yX6_refusal cX6_refusal 2 (some .int) ∈ lw_gd := List.mem_filter.mpr ⟨List.mem_of_getElem? (i := 1196) (by decide +kernel), by decide +kernel⟩
theorem qk_1197 : Cond.methodLink "QuakeRehearsalLaw" 131 yX6_cup ∈ lw_gd := List.mem_filter.mpr ⟨List.mem_of_getElem? (i := 1197) (by decide +kernel), by decide +kernel⟩
theorem qk_1198 : Cond.instanceMethod yX6_cup ∈ lw_gd := List.mem_filter.mpr ⟨List.mem_of_getElem? (i := 1198) (by decide +kernel), by decide +kernel⟩
theorem qk_1199 : Cond.selects RX6 yX6_cup yX6_cup ∈ lw_gd := List.mem_filter.mpr ⟨List.mem_of_getElem? (i := 1199) (by decide +kernel), by decide +kernel⟩
theorem qk_1200 : Cond.code yX6_cup cX6_cup 3 (some .int) ∈ lw_gd := List.mem_filter.mpr ⟨List.mem_of_getElem? (i := 1200) (by decide +kernel), by decide +kernel⟩
theorem qk_1201 : Cond.methodLink RX6 88 yX6_keep ∈ lw_gd := List.mem_filter.mpr ⟨List.mem_of_getElem? (i := 1201) (by decide +kernel), by decide +kernel⟩
theorem qk_1203 : Cond.instanceMethod yX6_keep ∈ lw_gd := List.mem_filter.mpr ⟨List.mem_of_getElem? (i := 1203) (by decide +kernel), by decide +kernel⟩
theorem qk_1204 : Cond.code yX6_keep cX6_keep 1 (none) ∈ lw_gd := List.mem_filter.mpr ⟨List.mem_of_getElem? (i := 1204) (by decide +kernel), by decide +kernel⟩
theorem qk_1205 : Cond.methodLink RX6 42 ⟨"java/lang/System", "arraycopy", "(Ljava/lang/Object;ILjava/lang/Object;II)V"⟩ ∈ lw_gd := List.mem_filter.mpr ⟨List.mem_of_getElem? (i := 1205) (by decide +kernel), by decide +kernel⟩
theorem qk_1206 : Cond.static ⟨"java/lang/System", "arraycopy", "(Ljava/lang/Object;ILjava/lang/Object;II)V"⟩ ∈ lw_gd := List.mem_filter.mpr ⟨List.mem_of_getElem? (i := 1206) (by decide +kernel), by decide +kernel⟩
theorem qk_1208 : Cond.methodLink RX6 91 yX6_comes ∈ lw_gd := List.mem_filter.mpr ⟨List.mem_of_getElem? (i := 1208) (by decide +kernel), by decide +kernel⟩
theorem qk_1210 : Cond.instanceMethod yX6_comes ∈ lw_gd := List.mem_filter.mpr ⟨List.mem_of_getElem? (i := 1210) (by decide +kernel), by decide +kernel⟩
theorem qk_1211 : Cond.code yX6_comes cX6_comes 6 (some .int) ∈ lw_gd := List.mem_filter.mpr ⟨List.mem_of_getElem? (i := 1211) (by decide +kernel), by decide +kernel⟩
theorem qk_1212 : Cond.methodLink RX6 69 yX6_isFloor ∈ lw_gd := List.mem_filter.mpr ⟨List.mem_of_getElem? (i := 1212) (by decide +kernel), by decide +kernel⟩
theorem qk_1213 : Cond.static yX6_isFloor ∈ lw_gd := List.mem_filter.mpr ⟨List.mem_of_getElem? (i := 1213) (by decide +kernel), by decide +kernel⟩
theorem qk_1214 : Cond.code yX6_isFloor cX6_isFloor 1 (some .boolean) ∈ lw_gd := List.mem_filter.mpr ⟨List.mem_of_getElem? (i := 1214) (by decide +kernel), by decide +kernel⟩
theorem qk_1215 : Cond.methodLink RX6 61 yX6_in ∈ lw_gd := List.mem_filter.mpr ⟨List.mem_of_getElem? (i := 1215) (by decide +kernel), by decide +kernel⟩
theorem qk_1216 : Cond.static yX6_in ∈ lw_gd := List.mem_filter.mpr ⟨List.mem_of_getElem? (i := 1216) (by decide +kernel), by decide +kernel⟩
theorem qk_1217 : Cond.code yX6_in cX6_in 3 (some .boolean) ∈ lw_gd := List.mem_filter.mpr ⟨List.mem_of_getElem? (i := 1217) (by decide +kernel), by decide +kernel⟩
theorem qk_1218 : Cond.methodLink RX6 73 yX6_fails ∈ lw_gd := List.mem_filter.mpr ⟨List.mem_of_getElem? (i := 1218) (by decide +kernel), by decide +kernel⟩
theorem qk_1220 : Cond.instanceMethod yX6_fails ∈ lw_gd := List.mem_filter.mpr ⟨List.mem_of_getElem? (i := 1220) (by decide +kernel), by decide +kernel⟩
theorem qk_1221 : Cond.code yX6_fails cX6_fails 2 (some .int) ∈ lw_gd := List.mem_filter.mpr ⟨List.mem_of_getElem? (i := 1221) (by decide +kernel), by decide +kernel⟩
theorem qk_1222 : Cond.methodLink RX6 77 yX6_refuse ∈ lw_gd := List.mem_filter.mpr ⟨List.mem_of_getElem? (i := 1222) (by decide +kernel), by decide +kernel⟩
theorem qk_1224 : Cond.instanceMethod yX6_refuse ∈ lw_gd := List.mem_filter.mpr ⟨List.mem_of_getElem? (i := 1224) (by decide +kernel), by decide +kernel⟩
theorem qk_1225 : Cond.code yX6_refuse cX6_refuse 4 (some .int) ∈ lw_gd := List.mem_filter.mpr ⟨List.mem_of_getElem? (i := 1225) (by decide +kernel), by decide +kernel⟩
theorem qk_1226 : Cond.methodLink RX6 81 yX6_there ∈ lw_gd := List.mem_filter.mpr ⟨List.mem_of_getElem? (i := 1226) (by decide +kernel), by decide +kernel⟩
theorem qk_1228 : Cond.instanceMethod yX6_there ∈ lw_gd := List.mem_filter.mpr ⟨List.mem_of_getElem? (i := 1228) (by decide +kernel), by decide +kernel⟩
theorem qk_1229 : Cond.code yX6_there cX6_there 5 (some .int) ∈ lw_gd := List.mem_filter.mpr ⟨List.mem_of_getElem? (i := 1229) (by decide +kernel), by decide +kernel⟩
theorem qk_1230 : Cond.methodLink RX6 65 yX6_of ∈ lw_gd := List.mem_filter.mpr ⟨List.mem_of_getElem? (i := 1230) (by decide +kernel), by decide +kernel⟩
theorem qk_1232 : Cond.instanceMethod yX6_of ∈ lw_gd := List.mem_filter.mpr ⟨List.mem_of_getElem? (i := 1232) (by decide +kernel), by decide +kernel⟩
theorem qk_1233 : Cond.code yX6_of cX6_of 3 (some .int) ∈ lw_gd := List.mem_filter.mpr ⟨List.mem_of_getElem? (i := 1233) (by decide +kernel), by decide +kernel⟩
theorem qk_1234 : Cond.methodLink RX6 84 yX6_sets ∈ lw_gd := List.mem_filter.mpr ⟨List.mem_of_getElem? (i := 1234) (by decide +kernel), by decide +kernel⟩
theorem qk_1236 : Cond.instanceMethod yX6_sets ∈ lw_gd := List.mem_filter.mpr ⟨List.mem_of_getElem? (i := 1236) (by decide +kernel), by decide +kernel⟩
theorem qk_1237 : Cond.code yX6_sets cX6_sets 4 (none) ∈ lw_gd := List.mem_filter.mpr ⟨List.mem_of_getElem? (i := 1237) (by decide +kernel), by decide +kernel⟩
theorem qk_1238 : Cond.methodLink RX6 94 yX6_ends ∈ lw_gd := List.mem_filter.mpr ⟨List.mem_of_getElem? (i := 1238) (by decide +kernel), by decide +kernel⟩
theorem qk_1240 : Cond.instanceMethod yX6_ends ∈ lw_gd := List.mem_filter.mpr ⟨List.mem_of_getElem? (i := 1240) (by decide +kernel), by decide +kernel⟩
theorem qk_1241 : Cond.code yX6_ends cX6_ends 2 (some .int) ∈ lw_gd := List.mem_filter.mpr ⟨List.mem_of_getElem? (i := 1241) (by decide +kernel), by decide +kernel⟩
theorem qk_1242 : Cond.methodLink "QuakeRehearsalLaw" 137 yX6_lamp ∈ lw_gd := List.mem_filter.mpr ⟨List.mem_of_getElem? (i := 1242) (by decide +kernel), by decide +kernel⟩
theorem qk_1243 : Cond.instanceMethod yX6_lamp ∈ lw_gd := List.mem_filter.mpr ⟨List.mem_of_getElem? (i := 1243) (by decide +kernel), by decide +kernel⟩
theorem qk_1244 : Cond.selects RX6 yX6_lamp yX6_lamp ∈ lw_gd := List.mem_filter.mpr ⟨List.mem_of_getElem? (i := 1244) (by decide +kernel), by decide +kernel⟩
theorem qk_1245 : Cond.code yX6_lamp cX6_lamp 3 (some .int) ∈ lw_gd := List.mem_filter.mpr ⟨List.mem_of_getElem? (i := 1245) (by decide +kernel), by decide +kernel⟩
theorem qk_1246 : Cond.methodLink "QuakeRehearsalLaw" 140 yX6_cat ∈ lw_gd := List.mem_filter.mpr ⟨List.mem_of_getElem? (i := 1246) (by decide +kernel), by decide +kernel⟩
theorem qk_1247 : Cond.instanceMethod yX6_cat ∈ lw_gd := List.mem_filter.mpr ⟨List.mem_of_getElem? (i := 1247) (by decide +kernel), by decide +kernel⟩
theorem qk_1248 : Cond.selects RX6 yX6_cat yX6_cat ∈ lw_gd := List.mem_filter.mpr ⟨List.mem_of_getElem? (i := 1248) (by decide +kernel), by decide +kernel⟩
theorem qk_1249 : Cond.code yX6_cat cX6_cat 3 (some .int) ∈ lw_gd := List.mem_filter.mpr ⟨List.mem_of_getElem? (i := 1249) (by decide +kernel), by decide +kernel⟩
theorem qk_1250 : Cond.methodLink "QuakeRehearsalLaw" 144 yX6_take ∈ lw_gd := List.mem_filter.mpr ⟨List.mem_of_getElem? (i := 1250) (by decide +kernel), by decide +kernel⟩
theorem qk_1251 : Cond.instanceMethod yX6_take ∈ lw_gd := List.mem_filter.mpr ⟨List.mem_of_getElem? (i := 1251) (by decide +kernel), by decide +kernel⟩
theorem qk_1252 : Cond.selects RX6 yX6_take yX6_take ∈ lw_gd := List.mem_filter.mpr ⟨List.mem_of_getElem? (i := 1252) (by decide +kernel), by decide +kernel⟩
theorem qk_1253 : Cond.code yX6_take cX6_take 2 (some .int) ∈ lw_gd := List.mem_filter.mpr ⟨List.mem_of_getElem? (i := 1253) (by decide +kernel), by decide +kernel⟩
theorem qk_1254 : Cond.methodLink RX6 100 yX6_doTake ∈ lw_gd := List.mem_filter.mpr ⟨List.mem_of_getElem? (i := 1254) (by decide +kernel), by decide +kernel⟩
theorem qk_1256 : Cond.instanceMethod yX6_doTake ∈ lw_gd := List.mem_filter.mpr ⟨List.mem_of_getElem? (i := 1256) (by decide +kernel), by decide +kernel⟩
theorem qk_1257 : Cond.code yX6_doTake cX6_doTake 4 (some .int) ∈ lw_gd := List.mem_filter.mpr ⟨List.mem_of_getElem? (i := 1257) (by decide +kernel), by decide +kernel⟩
theorem qk_1258 : Cond.methodLink RX6 97 yX6_isProp ∈ lw_gd := List.mem_filter.mpr ⟨List.mem_of_getElem? (i := 1258) (by decide +kernel), by decide +kernel⟩
theorem qk_1260 : Cond.instanceMethod yX6_isProp ∈ lw_gd := List.mem_filter.mpr ⟨List.mem_of_getElem? (i := 1260) (by decide +kernel), by decide +kernel⟩
theorem qk_1261 : Cond.code yX6_isProp cX6_isProp 2 (some .boolean) ∈ lw_gd := List.mem_filter.mpr ⟨List.mem_of_getElem? (i := 1261) (by decide +kernel), by decide +kernel⟩
theorem qk_1262 : Cond.methodLink "QuakeRehearsalLaw" 147 yX6_cue ∈ lw_gd := List.mem_filter.mpr ⟨List.mem_of_getElem? (i := 1262) (by decide +kernel), by decide +kernel⟩
theorem qk_1263 : Cond.instanceMethod yX6_cue ∈ lw_gd := List.mem_filter.mpr ⟨List.mem_of_getElem? (i := 1263) (by decide +kernel), by decide +kernel⟩
theorem qk_1264 : Cond.selects RX6 yX6_cue yX6_cue ∈ lw_gd := List.mem_filter.mpr ⟨List.mem_of_getElem? (i := 1264) (by decide +kernel), by decide +kernel⟩
theorem qk_1265 : Cond.code yX6_cue cX6_cue 3 (some .int) ∈ lw_gd := List.mem_filter.mpr ⟨List.mem_of_getElem? (i := 1265) (by decide +kernel), by decide +kernel⟩
theorem qk_1266 : Cond.methodLink RX6 103 yX6_doCue ∈ lw_gd := List.mem_filter.mpr ⟨List.mem_of_getElem? (i := 1266) (by decide +kernel), by decide +kernel⟩
theorem qk_1268 : Cond.instanceMethod yX6_doCue ∈ lw_gd := List.mem_filter.mpr ⟨List.mem_of_getElem? (i := 1268) (by decide +kernel), by decide +kernel⟩
theorem qk_1269 : Cond.code yX6_doCue cX6_doCue 4 (some .int) ∈ lw_gd := List.mem_filter.mpr ⟨List.mem_of_getElem? (i := 1269) (by decide +kernel), by decide +kernel⟩
theorem qk_1270 : Cond.methodLink "QuakeRehearsalLaw" 150 yX6_set ∈ lw_gd := List.mem_filter.mpr ⟨List.mem_of_getElem? (i := 1270) (by decide +kernel), by decide +kernel⟩
theorem qk_1271 : Cond.instanceMethod yX6_set ∈ lw_gd := List.mem_filter.mpr ⟨List.mem_of_getElem? (i := 1271) (by decide +kernel), by decide +kernel⟩
theorem qk_1272 : Cond.selects RX6 yX6_set yX6_set ∈ lw_gd := List.mem_filter.mpr ⟨List.mem_of_getElem? (i := 1272) (by decide +kernel), by decide +kernel⟩
theorem qk_1273 : Cond.code yX6_set cX6_set 2 (some .int) ∈ lw_gd := List.mem_filter.mpr ⟨List.mem_of_getElem? (i := 1273) (by decide +kernel), by decide +kernel⟩
theorem qk_1274 : Cond.methodLink RX6 109 yX6_doSet ∈ lw_gd := List.mem_filter.mpr ⟨List.mem_of_getElem? (i := 1274) (by decide +kernel), by decide +kernel⟩
theorem qk_1276 : Cond.instanceMethod yX6_doSet ∈ lw_gd := List.mem_filter.mpr ⟨List.mem_of_getElem? (i := 1276) (by decide +kernel), by decide +kernel⟩
theorem qk_1277 : Cond.code yX6_doSet cX6_doSet 3 (some .int) ∈ lw_gd := List.mem_filter.mpr ⟨List.mem_of_getElem? (i := 1277) (by decide +kernel), by decide +kernel⟩
theorem qk_1278 : Cond.methodLink RX6 106 yX6_isStrength ∈ lw_gd := List.mem_filter.mpr ⟨List.mem_of_getElem? (i := 1278) (by decide +kernel), by decide +kernel⟩
theorem qk_1279 : Cond.static yX6_isStrength ∈ lw_gd := List.mem_filter.mpr ⟨List.mem_of_getElem? (i := 1279) (by decide +kernel), by decide +kernel⟩
theorem qk_1280 : Cond.code yX6_isStrength cX6_isStrength 1 (some .boolean) ∈ lw_gd := List.mem_filter.mpr ⟨List.mem_of_getElem? (i := 1280) (by decide +kernel), by decide +kernel⟩
theorem qk_1281 : Cond.methodLink "QuakeRehearsalLaw" 154 yX6_shock ∈ lw_gd := List.mem_filter.mpr ⟨List.mem_of_getElem? (i := 1281) (by decide +kernel), by decide +kernel⟩
theorem qk_1282 : Cond.instanceMethod yX6_shock ∈ lw_gd := List.mem_filter.mpr ⟨List.mem_of_getElem? (i := 1282) (by decide +kernel), by decide +kernel⟩
theorem qk_1283 : Cond.selects RX6 yX6_shock yX6_shock ∈ lw_gd := List.mem_filter.mpr ⟨List.mem_of_getElem? (i := 1283) (by decide +kernel), by decide +kernel⟩
theorem qk_1284 : Cond.code yX6_shock cX6_shock 1 (some .int) ∈ lw_gd := List.mem_filter.mpr ⟨List.mem_of_getElem? (i := 1284) (by decide +kernel), by decide +kernel⟩
theorem qk_1285 : Cond.methodLink RX6 137 yX6_shocks ∈ lw_gd := List.mem_filter.mpr ⟨List.mem_of_getElem? (i := 1285) (by decide +kernel), by decide +kernel⟩
theorem qk_1287 : Cond.instanceMethod yX6_shocks ∈ lw_gd := List.mem_filter.mpr ⟨List.mem_of_getElem? (i := 1287) (by decide +kernel), by decide +kernel⟩
theorem qk_1288 : Cond.code yX6_shocks cX6_shocks 9 (some .int) ∈ lw_gd := List.mem_filter.mpr ⟨List.mem_of_getElem? (i := 1288) (by decide +kernel), by decide +kernel⟩
theorem qk_1289 : Cond.methodLink RX6 123 yX6_strengthOn ∈ lw_gd := List.mem_filter.mpr ⟨List.mem_of_getElem? (i := 1289) (by decide +kernel), by decide +kernel⟩
theorem qk_1291 : Cond.instanceMethod yX6_strengthOn ∈ lw_gd := List.mem_filter.mpr ⟨List.mem_of_getElem? (i := 1291) (by decide +kernel), by decide +kernel⟩
theorem qk_1292 : Cond.code yX6_strengthOn cX6_strengthOn 5 (some .int) ∈ lw_gd := List.mem_filter.mpr ⟨List.mem_of_getElem? (i := 1292) (by decide +kernel), by decide +kernel⟩
theorem qk_1293 : Cond.methodLink RX6 112 ⟨"java/lang/Math", "max", "(II)I"⟩ ∈ lw_gd := List.mem_filter.mpr ⟨List.mem_of_getElem? (i := 1293) (by decide +kernel), by decide +kernel⟩
theorem qk_1294 : Cond.static ⟨"java/lang/Math", "max", "(II)I"⟩ ∈ lw_gd := List.mem_filter.mpr ⟨List.mem_of_getElem? (i := 1294) (by decide +kernel), by decide +kernel⟩
theorem qk_1295 : Cond.code Lib.Math.max.name Lib.Math.max.code 2 (some .int) ∈ lw_gd := List.mem_filter.mpr ⟨List.mem_of_getElem? (i := 1295) (by decide +kernel), by decide +kernel⟩
theorem qk_1296 : Cond.methodLink RX6 126 yX6_shakes ∈ lw_gd := List.mem_filter.mpr ⟨List.mem_of_getElem? (i := 1296) (by decide +kernel), by decide +kernel⟩
theorem qk_1298 : Cond.instanceMethod yX6_shakes ∈ lw_gd := List.mem_filter.mpr ⟨List.mem_of_getElem? (i := 1298) (by decide +kernel), by decide +kernel⟩
theorem qk_1299 : Cond.code yX6_shakes cX6_shakes 4 (some .boolean) ∈ lw_gd := List.mem_filter.mpr ⟨List.mem_of_getElem? (i := 1299) (by decide +kernel), by decide +kernel⟩
theorem qk_1300 : Cond.methodLink RX6 130 yX6_swings ∈ lw_gd := List.mem_filter.mpr ⟨List.mem_of_getElem? (i := 1300) (by decide +kernel), by decide +kernel⟩
theorem qk_1302 : Cond.instanceMethod yX6_swings ∈ lw_gd := List.mem_filter.mpr ⟨List.mem_of_getElem? (i := 1302) (by decide +kernel), by decide +kernel⟩
theorem qk_1303 : Cond.code yX6_swings cX6_swings 5 (some .boolean) ∈ lw_gd := List.mem_filter.mpr ⟨List.mem_of_getElem? (i := 1303) (by decide +kernel), by decide +kernel⟩
theorem qk_1304 : Cond.methodLink RX6 133 yX6_marks ∈ lw_gd := List.mem_filter.mpr ⟨List.mem_of_getElem? (i := 1304) (by decide +kernel), by decide +kernel⟩
theorem qk_1306 : Cond.instanceMethod yX6_marks ∈ lw_gd := List.mem_filter.mpr ⟨List.mem_of_getElem? (i := 1306) (by decide +kernel), by decide +kernel⟩
theorem qk_1307 : Cond.code yX6_marks cX6_marks 6 (some .int) ∈ lw_gd := List.mem_filter.mpr ⟨List.mem_of_getElem? (i := 1307) (by decide +kernel), by decide +kernel⟩
theorem qk_1308 : Cond.methodLink RX6 117 ⟨"java/lang/Math", "abs", "(I)I"⟩ ∈ lw_gd := List.mem_filter.mpr ⟨List.mem_of_getElem? (i := 1308) (by decide +kernel), by decide +kernel⟩
theorem qk_1309 : Cond.methodLink "QuakeRehearsalLaw" 157 yX6_add ∈ lw_gd := List.mem_filter.mpr ⟨List.mem_of_getElem? (i := 1309) (by decide +kernel), by decide +kernel⟩
theorem qk_1310 : Cond.instanceMethod yX6_add ∈ lw_gd := List.mem_filter.mpr ⟨List.mem_of_getElem? (i := 1310) (by decide +kernel), by decide +kernel⟩
theorem qk_1311 : Cond.selects RX6 yX6_add yX6_add ∈ lw_gd := List.mem_filter.mpr ⟨List.mem_of_getElem? (i := 1311) (by decide +kernel), by decide +kernel⟩
theorem qk_1312 : Cond.code yX6_add cX6_add 2 (some .int) ∈ lw_gd := List.mem_filter.mpr ⟨List.mem_of_getElem? (i := 1312) (by decide +kernel), by decide +kernel⟩
theorem qk_1313 : Cond.methodLink RX6 140 yX6_doAdd ∈ lw_gd := List.mem_filter.mpr ⟨List.mem_of_getElem? (i := 1313) (by decide +kernel), by decide +kernel⟩
theorem qk_1315 : Cond.instanceMethod yX6_doAdd ∈ lw_gd := List.mem_filter.mpr ⟨List.mem_of_getElem? (i := 1315) (by decide +kernel), by decide +kernel⟩
theorem qk_1316 : Cond.code yX6_doAdd cX6_doAdd 3 (some .int) ∈ lw_gd := List.mem_filter.mpr ⟨List.mem_of_getElem? (i := 1316) (by decide +kernel), by decide +kernel⟩
theorem qk_1317 : Cond.methodLink "QuakeRehearsalLaw" 161 yX6_perform ∈ lw_gd := List.mem_filter.mpr ⟨List.mem_of_getElem? (i := 1317) (by decide +kernel), by decide +kernel⟩
theorem qk_1318 : Cond.instanceMethod yX6_perform ∈ lw_gd := List.mem_filter.mpr ⟨List.mem_of_getElem? (i := 1318) (by decide +kernel), by decide +kernel⟩
theorem qk_1319 : Cond.selects RX6 yX6_perform yX6_perform ∈ lw_gd := List.mem_filter.mpr ⟨List.mem_of_getElem? (i := 1319) (by decide +kernel), by decide +kernel⟩
theorem qk_1320 : Cond.code yX6_perform cX6_perform 1 (some .int) ∈ lw_gd := List.mem_filter.mpr ⟨List.mem_of_getElem? (i := 1320) (by decide +kernel), by decide +kernel⟩
theorem qk_1321 : Cond.methodLink RX6 146 yX6_doPerform ∈ lw_gd := List.mem_filter.mpr ⟨List.mem_of_getElem? (i := 1321) (by decide +kernel), by decide +kernel⟩
theorem qk_1323 : Cond.instanceMethod yX6_doPerform ∈ lw_gd := List.mem_filter.mpr ⟨List.mem_of_getElem? (i := 1323) (by decide +kernel), by decide +kernel⟩
theorem qk_1324 : Cond.code yX6_doPerform cX6_doPerform 7 (some .int) ∈ lw_gd := List.mem_filter.mpr ⟨List.mem_of_getElem? (i := 1324) (by decide +kernel), by decide +kernel⟩
theorem qk_1325 : Cond.methodLink RX6 143 yX6_kindMany ∈ lw_gd := List.mem_filter.mpr ⟨List.mem_of_getElem? (i := 1325) (by decide +kernel), by decide +kernel⟩
theorem qk_1327 : Cond.instanceMethod yX6_kindMany ∈ lw_gd := List.mem_filter.mpr ⟨List.mem_of_getElem? (i := 1327) (by decide +kernel), by decide +kernel⟩
theorem qk_1328 : Cond.code yX6_kindMany cX6_kindMany 4 (some .int) ∈ lw_gd := List.mem_filter.mpr ⟨List.mem_of_getElem? (i := 1328) (by decide +kernel), by decide +kernel⟩
theorem qk_1329 : Cond.methodLink "QuakeRehearsalLaw" 165 yX6_quiet ∈ lw_gd := List.mem_filter.mpr ⟨List.mem_of_getElem? (i := 1329) (by decide +kernel), by decide +kernel⟩
theorem qk_1330 : Cond.instanceMethod yX6_quiet ∈ lw_gd := List.mem_filter.mpr ⟨List.mem_of_getElem? (i := 1330) (by decide +kernel), by decide +kernel⟩
theorem qk_1331 : Cond.selects RX6 yX6_quiet yX6_quiet ∈ lw_gd := List.mem_filter.mpr ⟨List.mem_of_getElem? (i := 1331) (by decide +kernel), by decide +kernel⟩
theorem qk_1332 : Cond.code yX6_quiet cX6_quiet 1 (some .int) ∈ lw_gd := List.mem_filter.mpr ⟨List.mem_of_getElem? (i := 1332) (by decide +kernel), by decide +kernel⟩
theorem qk_1333 : Cond.methodLink RX6 150 yX6_doQuiet ∈ lw_gd := List.mem_filter.mpr ⟨List.mem_of_getElem? (i := 1333) (by decide +kernel), by decide +kernel⟩
theorem qk_1335 : Cond.instanceMethod yX6_doQuiet ∈ lw_gd := List.mem_filter.mpr ⟨List.mem_of_getElem? (i := 1335) (by decide +kernel), by decide +kernel⟩
theorem qk_1336 : Cond.code yX6_doQuiet cX6_doQuiet 3 (some .int) ∈ lw_gd := List.mem_filter.mpr ⟨List.mem_of_getElem? (i := 1336) (by decide +kernel), by decide +kernel⟩
theorem qk_1337 : Cond.methodLink "QuakeRehearsalLaw" 168 yX6_propOf ∈ lw_gd := List.mem_filter.mpr ⟨List.mem_of_getElem? (i := 1337) (by decide +kernel), by decide +kernel⟩
theorem qk_1338 : Cond.instanceMethod yX6_propOf ∈ lw_gd := List.mem_filter.mpr ⟨List.mem_of_getElem? (i := 1338) (by decide +kernel), by decide +kernel⟩
theorem qk_1339 : Cond.selects RX6 yX6_propOf yX6_propOf ∈ lw_gd := List.mem_filter.mpr ⟨List.mem_of_getElem? (i := 1339) (by decide +kernel), by decide +kernel⟩
theorem qk_1340 : Cond.code yX6_propOf cX6_propOf 3 (some .int) ∈ lw_gd := List.mem_filter.mpr ⟨List.mem_of_getElem? (i := 1340) (by decide +kernel), by decide +kernel⟩
theorem qk_1341 : Cond.methodLink "QuakeRehearsalLaw" 171 yX6_programme ∈ lw_gd := List.mem_filter.mpr ⟨List.mem_of_getElem? (i := 1341) (by decide +kernel), by decide +kernel⟩
theorem qk_1342 : Cond.instanceMethod yX6_programme ∈ lw_gd := List.mem_filter.mpr ⟨List.mem_of_getElem? (i := 1342) (by decide +kernel), by decide +kernel⟩
theorem qk_1343 : Cond.selects RX6 yX6_programme yX6_programme ∈ lw_gd := List.mem_filter.mpr ⟨List.mem_of_getElem? (i := 1343) (by decide +kernel), by decide +kernel⟩
theorem qk_1344 : Cond.code yX6_programme cX6_programme 2 (some .int) ∈ lw_gd := List.mem_filter.mpr ⟨List.mem_of_getElem? (i := 1344) (by decide +kernel), by decide +kernel⟩
theorem qk_1345 : Cond.methodLink "QuakeRehearsalLaw" 175 yX6_on ∈ lw_gd := List.mem_filter.mpr ⟨List.mem_of_getElem? (i := 1345) (by decide +kernel), by decide +kernel⟩
theorem qk_1346 : Cond.instanceMethod yX6_on ∈ lw_gd := List.mem_filter.mpr ⟨List.mem_of_getElem? (i := 1346) (by decide +kernel), by decide +kernel⟩
theorem qk_1347 : Cond.selects RX6 yX6_on yX6_on ∈ lw_gd := List.mem_filter.mpr ⟨List.mem_of_getElem? (i := 1347) (by decide +kernel), by decide +kernel⟩
theorem qk_1348 : Cond.code yX6_on cX6_on 4 (some .int) ∈ lw_gd := List.mem_filter.mpr ⟨List.mem_of_getElem? (i := 1348) (by decide +kernel), by decide +kernel⟩
theorem qk_1349 : Cond.methodLink "QuakeRehearsalLaw" 178 yX6_wouldMark ∈ lw_gd := List.mem_filter.mpr ⟨List.mem_of_getElem? (i := 1349) (by decide +kernel), by decide +kernel⟩
theorem qk_1350 : Cond.instanceMethod yX6_wouldMark ∈ lw_gd := List.mem_filter.mpr ⟨List.mem_of_getElem? (i := 1350) (by decide +kernel), by decide +kernel⟩
theorem qk_1351 : Cond.selects RX6 yX6_wouldMark yX6_wouldMark ∈ lw_gd := List.mem_filter.mpr ⟨List.mem_of_getElem? (i := 1351) (by decide +kernel), by decide +kernel⟩
theorem qk_1352 : Cond.code yX6_wouldMark cX6_wouldMark 2 (some .int) ∈ lw_gd := List.mem_filter.mpr ⟨List.mem_of_getElem? (i := 1352) (by decide +kernel), by decide +kernel⟩
theorem qk_1353 : Cond.methodLink RX6 159 yX6_would ∈ lw_gd := List.mem_filter.mpr ⟨List.mem_of_getElem? (i := 1353) (by decide +kernel), by decide +kernel⟩
theorem qk_1355 : Cond.instanceMethod yX6_would ∈ lw_gd := List.mem_filter.mpr ⟨List.mem_of_getElem? (i := 1355) (by decide +kernel), by decide +kernel⟩
theorem qk_1356 : Cond.code yX6_would cX6_would 4 (some .int) ∈ lw_gd := List.mem_filter.mpr ⟨List.mem_of_getElem? (i := 1356) (by decide +kernel), by decide +kernel⟩
theorem qk_1357 : Cond.methodLink RX6 153 yX6_thinks ∈ lw_gd := List.mem_filter.mpr ⟨List.mem_of_getElem? (i := 1357) (by decide +kernel), by decide +kernel⟩
theorem qk_1359 : Cond.instanceMethod yX6_thinks ∈ lw_gd := List.mem_filter.mpr ⟨List.mem_of_getElem? (i := 1359) (by decide +kernel), by decide +kernel⟩
theorem qk_1360 : Cond.code yX6_thinks cX6_thinks 1 (none) ∈ lw_gd := List.mem_filter.mpr ⟨List.mem_of_getElem? (i := 1360) (by decide +kernel), by decide +kernel⟩
theorem qk_1361 : Cond.methodLink RX6 156 yX6_forgets ∈ lw_gd := List.mem_filter.mpr ⟨List.mem_of_getElem? (i := 1361) (by decide +kernel), by decide +kernel⟩
theorem qk_1363 : Cond.instanceMethod yX6_forgets ∈ lw_gd := List.mem_filter.mpr ⟨List.mem_of_getElem? (i := 1363) (by decide +kernel), by decide +kernel⟩
theorem qk_1364 : Cond.code yX6_forgets cX6_forgets 1 (none) ∈ lw_gd := List.mem_filter.mpr ⟨List.mem_of_getElem? (i := 1364) (by decide +kernel), by decide +kernel⟩
theorem qk_1365 : Cond.methodLink "QuakeRehearsalLaw" 182 yX6_wouldBreak ∈ lw_gd := List.mem_filter.mpr ⟨List.mem_of_getElem? (i := 1365) (by decide +kernel), by decide +kernel⟩
theorem qk_1366 : Cond.instanceMethod yX6_wouldBreak ∈ lw_gd := List.mem_filter.mpr ⟨List.mem_of_getElem? (i := 1366) (by decide +kernel), by decide +kernel⟩
theorem qk_1367 : Cond.selects RX6 yX6_wouldBreak yX6_wouldBreak ∈ lw_gd := List.mem_filter.mpr ⟨List.mem_of_getElem? (i := 1367) (by decide +kernel), by decide +kernel⟩
theorem qk_1368 : Cond.code yX6_wouldBreak cX6_wouldBreak 3 (some .int) ∈ lw_gd := List.mem_filter.mpr ⟨List.mem_of_getElem? (i := 1368) (by decide +kernel), by decide +kernel⟩
theorem qk_1369 : Cond.methodLink "QuakeRehearsalLaw" 186 yX6_programmeBreaks ∈ lw_gd := List.mem_filter.mpr ⟨List.mem_of_getElem? (i := 1369) (by decide +kernel), by decide +kernel⟩
theorem qk_1370 : Cond.instanceMethod yX6_programmeBreaks ∈ lw_gd := List.mem_filter.mpr ⟨List.mem_of_getElem? (i := 1370) (by decide +kernel), by decide +kernel⟩
theorem qk_1371 : Cond.selects RX6 yX6_programmeBreaks yX6_programmeBreaks ∈ lw_gd := List.mem_filter.mpr ⟨List.mem_of_getElem? (i := 1371) (by decide +kernel), by decide +kernel⟩
theorem qk_1372 : Cond.code yX6_programmeBreaks cX6_programmeBreaks 4 (some .int) ∈ lw_gd := List.mem_filter.mpr ⟨List.mem_of_getElem? (i := 1372) (by decide +kernel), by decide +kernel⟩
theorem qk_1373 : Cond.methodLink "QuakeRehearsalLaw" 190 yX6_best ∈ lw_gd := List.mem_filter.mpr ⟨List.mem_of_getElem? (i := 1373) (by decide +kernel), by decide +kernel⟩
theorem qk_1374 : Cond.instanceMethod yX6_best ∈ lw_gd := List.mem_filter.mpr ⟨List.mem_of_getElem? (i := 1374) (by decide +kernel), by decide +kernel⟩
theorem qk_1375 : Cond.selects RX6 yX6_best yX6_best ∈ lw_gd := List.mem_filter.mpr ⟨List.mem_of_getElem? (i := 1375) (by decide +kernel), by decide +kernel⟩
theorem qk_1376 : Cond.code yX6_best cX6_best 3 (some .int) ∈ lw_gd := List.mem_filter.mpr ⟨List.mem_of_getElem? (i := 1376) (by decide +kernel), by decide +kernel⟩
theorem qk_1377 : Cond.methodLink "QuakeRehearsalLaw" 193 yX6_leastBreaking ∈ lw_gd := List.mem_filter.mpr ⟨List.mem_of_getElem? (i := 1377) (by decide +kernel), by decide +kernel⟩
theorem qk_1378 : Cond.instanceMethod yX6_leastBreaking ∈ lw_gd := List.mem_filter.mpr ⟨List.mem_of_getElem? (i := 1378) (by decide +kernel), by decide +kernel⟩
theorem qk_1379 : Cond.selects RX6 yX6_leastBreaking yX6_leastBreaking ∈ lw_gd := List.mem_filter.mpr ⟨List.mem_of_getElem? (i := 1379) (by decide +kernel), by decide +kernel⟩
theorem qk_1380 : Cond.code yX6_leastBreaking cX6_leastBreaking 2 (some .int) ∈ lw_gd := List.mem_filter.mpr ⟨List.mem_of_getElem? (i := 1380) (by decide +kernel), by decide +kernel⟩
theorem qk_1381 : Cond.methodLink "QuakeRehearsalLaw" 196 yX6_shocksFor ∈ lw_gd := List.mem_filter.mpr ⟨List.mem_of_getElem? (i := 1381) (by decide +kernel), by decide +kernel⟩
theorem qk_1382 : Cond.instanceMethod yX6_shocksFor ∈ lw_gd := List.mem_filter.mpr ⟨List.mem_of_getElem? (i := 1382) (by decide +kernel), by decide +kernel⟩
theorem qk_1383 : Cond.selects RX6 yX6_shocksFor yX6_shocksFor ∈ lw_gd := List.mem_filter.mpr ⟨List.mem_of_getElem? (i := 1383) (by decide +kernel), by decide +kernel⟩
theorem qk_1384 : Cond.code yX6_shocksFor cX6_shocksFor 4 (some .int) ∈ lw_gd := List.mem_filter.mpr ⟨List.mem_of_getElem? (i := 1384) (by decide +kernel), by decide +kernel⟩
theorem qk_1385 : Cond.methodLink "QuakeRehearsalLaw" 199 yX6_isBroken ∈ lw_gd := List.mem_filter.mpr ⟨List.mem_of_getElem? (i := 1385) (by decide +kernel), by decide +kernel⟩
theorem qk_1386 : Cond.instanceMethod yX6_isBroken ∈ lw_gd := List.mem_filter.mpr ⟨List.mem_of_getElem? (i := 1386) (by decide +kernel), by decide +kernel⟩
theorem qk_1387 : Cond.selects RX6 yX6_isBroken yX6_isBroken ∈ lw_gd := List.mem_filter.mpr ⟨List.mem_of_getElem? (i := 1387) (by decide +kernel), by decide +kernel⟩
theorem qk_1388 : Cond.code yX6_isBroken cX6_isBroken 2 (some .boolean) ∈ lw_gd := List.mem_filter.mpr ⟨List.mem_of_getElem? (i := 1388) (by decide +kernel), by decide +kernel⟩
theorem qk_1389 : Cond.methodLink "QuakeRehearsalLaw" 202 yX6_cupAt ∈ lw_gd := List.mem_filter.mpr ⟨List.mem_of_getElem? (i := 1389) (by decide +kernel), by decide +kernel⟩
theorem qk_1390 : Cond.instanceMethod yX6_cupAt ∈ lw_gd := List.mem_filter.mpr ⟨List.mem_of_getElem? (i := 1390) (by decide +kernel), by decide +kernel⟩
theorem qk_1391 : Cond.selects RX6 yX6_cupAt yX6_cupAt ∈ lw_gd := List.mem_filter.mpr ⟨List.mem_of_getElem? (i := 1391) (by decide +kernel), by decide +kernel⟩
theorem qk_1392 : Cond.code yX6_cupAt cX6_cupAt 2 (some .int) ∈ lw_gd := List.mem_filter.mpr ⟨List.mem_of_getElem? (i := 1392) (by decide +kernel), by decide +kernel⟩
theorem qk_1393 : Cond.methodLink RX6 166 yX6_placed ∈ lw_gd := List.mem_filter.mpr ⟨List.mem_of_getElem? (i := 1393) (by decide +kernel), by decide +kernel⟩
theorem qk_1395 : Cond.instanceMethod yX6_placed ∈ lw_gd := List.mem_filter.mpr ⟨List.mem_of_getElem? (i := 1395) (by decide +kernel), by decide +kernel⟩
theorem qk_1396 : Cond.code yX6_placed cX6_placed 8 (some .int) ∈ lw_gd := List.mem_filter.mpr ⟨List.mem_of_getElem? (i := 1396) (by decide +kernel), by decide +kernel⟩
theorem qk_1397 : Cond.methodLink RX6 163 yX6_ahead ∈ lw_gd := List.mem_filter.mpr ⟨List.mem_of_getElem? (i := 1397) (by decide +kernel), by decide +kernel⟩
theorem qk_1399 : Cond.instanceMethod yX6_ahead ∈ lw_gd := List.mem_filter.mpr ⟨List.mem_of_getElem? (i := 1399) (by decide +kernel), by decide +kernel⟩
theorem qk_1400 : Cond.code yX6_ahead cX6_ahead 5 (some .int) ∈ lw_gd := List.mem_filter.mpr ⟨List.mem_of_getElem? (i := 1400) (by decide +kernel), by decide +kernel⟩
theorem qk_1401 : Cond.methodLink "QuakeRehearsalLaw" 205 yX6_lampAt ∈ lw_gd := List.mem_filter.mpr ⟨List.mem_of_getElem? (i := 1401) (by decide +kernel), by decide +kernel⟩
theorem qk_1402 : Cond.instanceMethod yX6_lampAt ∈ lw_gd := List.mem_filter.mpr ⟨List.mem_of_getElem? (i := 1402) (by decide +kernel), by decide +kernel⟩
theorem qk_1403 : Cond.selects RX6 yX6_lampAt yX6_lampAt ∈ lw_gd := List.mem_filter.mpr ⟨List.mem_of_getElem? (i := 1403) (by decide +kernel), by decide +kernel⟩
theorem qk_1404 : Cond.code yX6_lampAt cX6_lampAt 2 (some .int) ∈ lw_gd := List.mem_filter.mpr ⟨List.mem_of_getElem? (i := 1404) (by decide +kernel), by decide +kernel⟩
theorem qk_1405 : Cond.methodLink "QuakeRehearsalLaw" 208 yX6_catAt ∈ lw_gd := List.mem_filter.mpr ⟨List.mem_of_getElem? (i := 1405) (by decide +kernel), by decide +kernel⟩
theorem qk_1406 : Cond.instanceMethod yX6_catAt ∈ lw_gd := List.mem_filter.mpr ⟨List.mem_of_getElem? (i := 1406) (by decide +kernel), by decide +kernel⟩
theorem qk_1407 : Cond.selects RX6 yX6_catAt yX6_catAt ∈ lw_gd := List.mem_filter.mpr ⟨List.mem_of_getElem? (i := 1407) (by decide +kernel), by decide +kernel⟩
theorem qk_1408 : Cond.code yX6_catAt cX6_catAt 2 (some .int) ∈ lw_gd := List.mem_filter.mpr ⟨List.mem_of_getElem? (i := 1408) (by decide +kernel), by decide +kernel⟩
theorem qk_1409 : Cond.methodLink "QuakeRehearsalLaw" 211 yX6_onFloor ∈ lw_gd := List.mem_filter.mpr ⟨List.mem_of_getElem? (i := 1409) (by decide +kernel), by decide +kernel⟩
theorem qk_1410 : Cond.instanceMethod yX6_onFloor ∈ lw_gd := List.mem_filter.mpr ⟨List.mem_of_getElem? (i := 1410) (by decide +kernel), by decide +kernel⟩
theorem qk_1411 : Cond.selects RX6 yX6_onFloor yX6_onFloor ∈ lw_gd := List.mem_filter.mpr ⟨List.mem_of_getElem? (i := 1411) (by decide +kernel), by decide +kernel⟩
theorem qk_1412 : Cond.code yX6_onFloor cX6_onFloor 3 (some .int) ∈ lw_gd := List.mem_filter.mpr ⟨List.mem_of_getElem? (i := 1412) (by decide +kernel), by decide +kernel⟩
theorem qk_1413 : Cond.methodLink "QuakeRehearsalLaw" 214 yX6_line ∈ lw_gd := List.mem_filter.mpr ⟨List.mem_of_getElem? (i := 1413) (by decide +kernel), by decide +kernel⟩
theorem qk_1414 : Cond.instanceMethod yX6_line ∈ lw_gd := List.mem_filter.mpr ⟨List.mem_of_getElem? (i := 1414) (by decide +kernel), by decide +kernel⟩
theorem qk_1415 : Cond.selects RX6 yX6_line yX6_line ∈ lw_gd := List.mem_filter.mpr ⟨List.mem_of_getElem? (i := 1415) (by decide +kernel), by decide +kernel⟩
theorem qk_1416 : Cond.code yX6_line cX6_line 2 (some .int) ∈ lw_gd := List.mem_filter.mpr ⟨List.mem_of_getElem? (i := 1416) (by decide +kernel), by decide +kernel⟩
theorem qk_1418 : Cond.methodLink RX6 182 ⟨"java/lang/String", "charAt", "(I)C"⟩ ∈ lw_gd := List.mem_filter.mpr ⟨List.mem_of_getElem? (i := 1418) (by decide +kernel), by decide +kernel⟩
theorem qk_1419 : Cond.methodLink RX6 176 yX6_says ∈ lw_gd := List.mem_filter.mpr ⟨List.mem_of_getElem? (i := 1419) (by decide +kernel), by decide +kernel⟩
theorem qk_1421 : Cond.instanceMethod yX6_says ∈ lw_gd := List.mem_filter.mpr ⟨List.mem_of_getElem? (i := 1421) (by decide +kernel), by decide +kernel⟩
theorem qk_1422 : Cond.code yX6_says cX6_says 2 (none) ∈ lw_gd := List.mem_filter.mpr ⟨List.mem_of_getElem? (i := 1422) (by decide +kernel), by decide +kernel⟩
theorem qk_1423 : Cond.methodLink RX6 172 yX6_saysNumber ∈ lw_gd := List.mem_filter.mpr ⟨List.mem_of_getElem? (i := 1423) (by decide +kernel), by decide +kernel⟩
theorem qk_1425 : Cond.instanceMethod yX6_saysNumber ∈ lw_gd := List.mem_filter.mpr ⟨List.mem_of_getElem? (i := 1425) (by decide +kernel), by decide +kernel⟩
theorem qk_1426 : Cond.code yX6_saysNumber cX6_saysNumber 2 (none) ∈ lw_gd := List.mem_filter.mpr ⟨List.mem_of_getElem? (i := 1426) (by decide +kernel), by decide +kernel⟩
theorem qk_1427 : Cond.methodLink RX6 188 yX6_saysValue ∈ lw_gd := List.mem_filter.mpr ⟨List.mem_of_getElem? (i := 1427) (by decide +kernel), by decide +kernel⟩
theorem qk_1429 : Cond.instanceMethod yX6_saysValue ∈ lw_gd := List.mem_filter.mpr ⟨List.mem_of_getElem? (i := 1429) (by decide +kernel), by decide +kernel⟩
theorem qk_1430 : Cond.code yX6_saysValue cX6_saysValue 3 (none) ∈ lw_gd := List.mem_filter.mpr ⟨List.mem_of_getElem? (i := 1430) (by decide +kernel), by decide +kernel⟩
theorem qk_1431 : Cond.methodLink "QuakeRehearsalLaw" 218 yX6_programmeLine ∈ lw_gd := List.mem_filter.mpr ⟨List.mem_of_getElem? (i := 1431) (by decide +kernel), by decide +kernel⟩
theorem qk_1432 : Cond.instanceMethod yX6_programmeLine ∈ lw_gd := List.mem_filter.mpr ⟨List.mem_of_getElem? (i := 1432) (by decide +kernel), by decide +kernel⟩
theorem qk_1433 : Cond.selects RX6 yX6_programmeLine yX6_programmeLine ∈ lw_gd := List.mem_filter.mpr ⟨List.mem_of_getElem? (i := 1433) (by decide +kernel), by decide +kernel⟩
theorem qk_1434 : Cond.code yX6_programmeLine cX6_programmeLine 2 (some .int) ∈ lw_gd := List.mem_filter.mpr ⟨List.mem_of_getElem? (i := 1434) (by decide +kernel), by decide +kernel⟩
theorem qk_1435 : Cond.methodLink "QuakeRehearsalLaw" 221 yX6_character ∈ lw_gd := List.mem_filter.mpr ⟨List.mem_of_getElem? (i := 1435) (by decide +kernel), by decide +kernel⟩
theorem qk_1436 : Cond.instanceMethod yX6_character ∈ lw_gd := List.mem_filter.mpr ⟨List.mem_of_getElem? (i := 1436) (by decide +kernel), by decide +kernel⟩
theorem qk_1437 : Cond.selects RX6 yX6_character yX6_character ∈ lw_gd := List.mem_filter.mpr ⟨List.mem_of_getElem? (i := 1437) (by decide +kernel), by decide +kernel⟩
theorem qk_1438 : Cond.code yX6_character cX6_character 2 (some .char) ∈ lw_gd := List.mem_filter.mpr ⟨List.mem_of_getElem? (i := 1438) (by decide +kernel), by decide +kernel⟩
theorem qk_1439 : Cond.methodLink "QuakeRehearsalLaw" 225 yX6_append ∈ lw_gd := List.mem_filter.mpr ⟨List.mem_of_getElem? (i := 1439) (by decide +kernel), by decide +kernel⟩
theorem qk_1440 : Cond.instanceMethod yX6_append ∈ lw_gd := List.mem_filter.mpr ⟨List.mem_of_getElem? (i := 1440) (by decide +kernel), by decide +kernel⟩
theorem qk_1441 : Cond.selects RX6 yX6_append yX6_append ∈ lw_gd := List.mem_filter.mpr ⟨List.mem_of_getElem? (i := 1441) (by decide +kernel), by decide +kernel⟩
theorem qk_1442 : Cond.code yX6_append cX6_append 2 (some .int) ∈ lw_gd := List.mem_filter.mpr ⟨List.mem_of_getElem? (i := 1442) (by decide +kernel), by decide +kernel⟩
theorem qk_1443 : Cond.methodLink "QuakeRehearsalLaw" 228 yX6_run ∈ lw_gd := List.mem_filter.mpr ⟨List.mem_of_getElem? (i := 1443) (by decide +kernel), by decide +kernel⟩
theorem qk_1444 : Cond.instanceMethod yX6_run ∈ lw_gd := List.mem_filter.mpr ⟨List.mem_of_getElem? (i := 1444) (by decide +kernel), by decide +kernel⟩
theorem qk_1445 : Cond.selects RX6 yX6_run yX6_run ∈ lw_gd := List.mem_filter.mpr ⟨List.mem_of_getElem? (i := 1445) (by decide +kernel), by decide +kernel⟩
theorem qk_1446 : Cond.code yX6_run cX6_run 2 (some .int) ∈ lw_gd := List.mem_filter.mpr ⟨List.mem_of_getElem? (i := 1446) (by decide +kernel), by decide +kernel⟩
theorem qk_1447 : Cond.methodLink RX6 243 yX6_readOrder ∈ lw_gd := List.mem_filter.mpr ⟨List.mem_of_getElem? (i := 1447) (by decide +kernel), by decide +kernel⟩
theorem qk_1449 : Cond.instanceMethod yX6_readOrder ∈ lw_gd := List.mem_filter.mpr ⟨List.mem_of_getElem? (i := 1449) (by decide +kernel), by decide +kernel⟩
theorem qk_1450 : Cond.code yX6_readOrder cX6_readOrder 3 (none) ∈ lw_gd := List.mem_filter.mpr ⟨List.mem_of_getElem? (i := 1450) (by decide +kernel), by decide +kernel⟩
theorem qk_1451 : Cond.methodLink RX6 235 yX6_word ∈ lw_gd := List.mem_filter.mpr ⟨List.mem_of_getElem? (i := 1451) (by decide +kernel), by decide +kernel⟩
theorem qk_1453 : Cond.instanceMethod yX6_word ∈ lw_gd := List.mem_filter.mpr ⟨List.mem_of_getElem? (i := 1453) (by decide +kernel), by decide +kernel⟩
theorem qk_1454 : Cond.code yX6_word cX6_word 7 (some .int) ∈ lw_gd := List.mem_filter.mpr ⟨List.mem_of_getElem? (i := 1454) (by decide +kernel), by decide +kernel⟩
theorem qk_1457 : Cond.methodLink RX6 204 ⟨"java/lang/String", "length", "()I"⟩ ∈ lw_gd := List.mem_filter.mpr ⟨List.mem_of_getElem? (i := 1457) (by decide +kernel), by decide +kernel⟩
theorem qk_1458 : Cond.methodLink RX6 214 ⟨"java/lang/String", "indexOf", "(II)I"⟩ ∈ lw_gd := List.mem_filter.mpr ⟨List.mem_of_getElem? (i := 1458) (by decide +kernel), by decide +kernel⟩
theorem qk_1459 : Cond.instanceMethod ⟨"java/lang/String", "indexOf", "(II)I"⟩ ∈ lw_gd := List.mem_filter.mpr ⟨List.mem_of_getElem? (i := 1459) (by decide +kernel), by decide +kernel⟩
theorem qk_1460 : Cond.selects "java/lang/String" ⟨"java/lang/String", "indexOf", "(II)I"⟩ ⟨"java/lang/String", "indexOf", "(II)I"⟩ ∈ lw_gd := List.mem_filter.mpr ⟨List.mem_of_getElem? (i := 1460) (by decide +kernel), by decide +kernel⟩
theorem qk_1464 : Cond.static ⟨"java/lang/StringLatin1", "indexOf", "([BIII)I"⟩ ∈ lw_gd := List.mem_filter.mpr ⟨List.mem_of_getElem? (i := 1464) (by decide +kernel), by decide +kernel⟩
theorem qk_1467 : Cond.static ⟨"java/lang/StringLatin1", "canEncode", "(I)Z"⟩ ∈ lw_gd := List.mem_filter.mpr ⟨List.mem_of_getElem? (i := 1467) (by decide +kernel), by decide +kernel⟩
theorem qk_1471 : Cond.static ⟨"java/lang/Math", "min", "(II)I"⟩ ∈ lw_gd := List.mem_filter.mpr ⟨List.mem_of_getElem? (i := 1471) (by decide +kernel), by decide +kernel⟩
theorem qk_1474 : Cond.static ⟨"java/lang/StringLatin1", "indexOfChar", "([BIII)I"⟩ ∈ lw_gd := List.mem_filter.mpr ⟨List.mem_of_getElem? (i := 1474) (by decide +kernel), by decide +kernel⟩
theorem qk_1477 : Cond.static ⟨"java/lang/StringUTF16", "indexOf", "([BIII)I"⟩ ∈ lw_gd := List.mem_filter.mpr ⟨List.mem_of_getElem? (i := 1477) (by decide +kernel), by decide +kernel⟩
theorem qk_1483 : Cond.static ⟨"java/lang/StringUTF16", "indexOfChar", "([BIII)I"⟩ ∈ lw_gd := List.mem_filter.mpr ⟨List.mem_of_getElem? (i := 1483) (by decide +kernel), by decide +kernel⟩
theorem qk_1486 : Cond.static ⟨"java/lang/StringUTF16", "checkBoundsBeginEnd", "(II[B)V"⟩ ∈ lw_gd := List.mem_filter.mpr ⟨List.mem_of_getElem? (i := 1486) (by decide +kernel), by decide +kernel⟩
theorem qk_1489 : Cond.static ⟨"java/lang/String", "checkBoundsBeginEnd", "(III)V"⟩ ∈ lw_gd := List.mem_filter.mpr ⟨List.mem_of_getElem? (i := 1489) (by decide +kernel), by decide +kernel⟩
theorem qk_1492 : Cond.static ⟨"jdk/internal/util/Preconditions", "checkFromToIndex", "(IIILjava/util/function/BiFunction;)I"⟩ ∈ lw_gd := List.mem_filter.mpr ⟨List.mem_of_getElem? (i := 1492) (by decide +kernel), by decide +kernel⟩
theorem qk_1495 : Cond.static ⟨"java/lang/StringUTF16", "indexOfCharUnsafe", "([BIII)I"⟩ ∈ lw_gd := List.mem_filter.mpr ⟨List.mem_of_getElem? (i := 1495) (by decide +kernel), by decide +kernel⟩
theorem qk_1498 : Cond.static ⟨"java/lang/StringUTF16", "indexOfSupplementary", "([BIII)I"⟩ ∈ lw_gd := List.mem_filter.mpr ⟨List.mem_of_getElem? (i := 1498) (by decide +kernel), by decide +kernel⟩
theorem qk_1501 : Cond.static ⟨"java/lang/Character", "isValidCodePoint", "(I)Z"⟩ ∈ lw_gd := List.mem_filter.mpr ⟨List.mem_of_getElem? (i := 1501) (by decide +kernel), by decide +kernel⟩
theorem qk_1504 : Cond.static ⟨"java/lang/Character", "highSurrogate", "(I)C"⟩ ∈ lw_gd := List.mem_filter.mpr ⟨List.mem_of_getElem? (i := 1504) (by decide +kernel), by decide +kernel⟩
theorem qk_1508 : Cond.static ⟨"java/lang/Character", "lowSurrogate", "(I)C"⟩ ∈ lw_gd := List.mem_filter.mpr ⟨List.mem_of_getElem? (i := 1508) (by decide +kernel), by decide +kernel⟩
theorem qk_1511 : Cond.methodLink RX6 217 ⟨"java/lang/String", "substring", "(II)Ljava/lang/String;"⟩ ∈ lw_gd := List.mem_filter.mpr ⟨List.mem_of_getElem? (i := 1511) (by decide +kernel), by decide +kernel⟩
theorem qk_1512 : Cond.instanceMethod ⟨"java/lang/String", "substring", "(II)Ljava/lang/String;"⟩ ∈ lw_gd := List.mem_filter.mpr ⟨List.mem_of_getElem? (i := 1512) (by decide +kernel), by decide +kernel⟩
theorem qk_1513 : Cond.selects "java/lang/String" ⟨"java/lang/String", "substring", "(II)Ljava/lang/String;"⟩ ⟨"java/lang/String", "substring", "(II)Ljava/lang/String;"⟩ ∈ lw_gd := List.mem_filter.mpr ⟨List.mem_of_getElem? (i := 1513) (by decide +kernel), by decide +kernel⟩
theorem qk_1517 : Cond.static ⟨"java/lang/StringLatin1", "newString", "([BII)Ljava/lang/String;"⟩ ∈ lw_gd := List.mem_filter.mpr ⟨List.mem_of_getElem? (i := 1517) (by decide +kernel), by decide +kernel⟩
theorem qk_1522 : Cond.static ⟨"java/util/Arrays", "copyOfRange", "([BII)[B"⟩ ∈ lw_gd := List.mem_filter.mpr ⟨List.mem_of_getElem? (i := 1522) (by decide +kernel), by decide +kernel⟩
theorem qk_1525 : Cond.static ⟨"java/util/Arrays", "copyOfRangeByte", "([BII)[B"⟩ ∈ lw_gd := List.mem_filter.mpr ⟨List.mem_of_getElem? (i := 1525) (by decide +kernel), by decide +kernel⟩
theorem qk_1528 : Cond.static ⟨"java/util/Arrays", "checkLength", "(II)V"⟩ ∈ lw_gd := List.mem_filter.mpr ⟨List.mem_of_getElem? (i := 1528) (by decide +kernel), by decide +kernel⟩
theorem qk_1534 : Cond.instanceMethod ⟨"java/lang/StringBuilder", "<init>", "()V"⟩ ∈ lw_gd := List.mem_filter.mpr ⟨List.mem_of_getElem? (i := 1534) (by decide +kernel), by decide +kernel⟩
theorem qk_1537 : Cond.instanceMethod ⟨"java/lang/AbstractStringBuilder", "<init>", "(I)V"⟩ ∈ lw_gd := List.mem_filter.mpr ⟨List.mem_of_getElem? (i := 1537) (by decide +kernel), by decide +kernel⟩
theorem qk_1542 : Cond.static ⟨"java/lang/StringUTF16", "newBytesFor", "(I)[B"⟩ ∈ lw_gd := List.mem_filter.mpr ⟨List.mem_of_getElem? (i := 1542) (by decide +kernel), by decide +kernel⟩
theorem qk_1545 : Cond.static ⟨"java/lang/StringUTF16", "newBytesLength", "(I)I"⟩ ∈ lw_gd := List.mem_filter.mpr ⟨List.mem_of_getElem? (i := 1545) (by decide +kernel), by decide +kernel⟩
theorem qk_1562 : Cond.instanceMethod ⟨"java/lang/StringBuilder", "append", "(I)Ljava/lang/StringBuilder;"⟩ ∈ lw_gd := List.mem_filter.mpr ⟨List.mem_of_getElem? (i := 1562) (by decide +kernel), by decide +kernel⟩
theorem qk_1563 : Cond.selects "java/lang/StringBuilder" ⟨"java/lang/StringBuilder", "append", "(I)Ljava/lang/StringBuilder;"⟩ ⟨"java/lang/StringBuilder", "append", "(I)Ljava/lang/StringBuilder;"⟩ ∈ lw_gd := List.mem_filter.mpr ⟨List.mem_of_getElem? (i := 1563) (by decide +kernel), by decide +kernel⟩
theorem qk_1566 : Cond.instanceMethod ⟨"java/lang/AbstractStringBuilder", "append", "(I)Ljava/lang/AbstractStringBuilder;"⟩ ∈ lw_gd := List.mem_filter.mpr ⟨List.mem_of_getElem? (i := 1566) (by decide +kernel), by decide +kernel⟩
theorem qk_1569 : Cond.static ⟨"java/lang/Integer", "stringSize", "(I)I"⟩ ∈ lw_gd := List.mem_filter.mpr ⟨List.mem_of_getElem? (i := 1569) (by decide +kernel), by decide +kernel⟩
theorem qk_1573 : Cond.instanceMethod ⟨"java/lang/AbstractStringBuilder", "ensureCapacityInternal", "(I)V"⟩ ∈ lw_gd := List.mem_filter.mpr ⟨List.mem_of_getElem? (i := 1573) (by decide +kernel), by decide +kernel⟩
theorem qk_1577 : Cond.instanceMethod ⟨"java/lang/AbstractStringBuilder", "newCapacity", "(I)I"⟩ ∈ lw_gd := List.mem_filter.mpr ⟨List.mem_of_getElem? (i := 1577) (by decide +kernel), by decide +kernel⟩
theorem qk_1580 : Cond.static ⟨"jdk/internal/util/ArraysSupport", "newLength", "(III)I"⟩ ∈ lw_gd := List.mem_filter.mpr ⟨List.mem_of_getElem? (i := 1580) (by decide +kernel), by decide +kernel⟩
theorem qk_1585 : Cond.static ⟨"jdk/internal/util/ArraysSupport", "hugeLength", "(II)I"⟩ ∈ lw_gd := List.mem_filter.mpr ⟨List.mem_of_getElem? (i := 1585) (by decide +kernel), by decide +kernel⟩
theorem qk_1589 : Cond.static ⟨"java/util/Arrays", "copyOf", "([BI)[B"⟩ ∈ lw_gd := List.mem_filter.mpr ⟨List.mem_of_getElem? (i := 1589) (by decide +kernel), by decide +kernel⟩
theorem qk_1594 : Cond.instanceMethod ⟨"java/lang/Object", "clone", "()Ljava/lang/Object;"⟩ ∈ lw_gd := List.mem_filter.mpr ⟨List.mem_of_getElem? (i := 1594) (by decide +kernel), by decide +kernel⟩
theorem qk_1595 : Cond.selects "[B" ⟨"[B", "clone", "()Ljava/lang/Object;"⟩ ⟨"java/lang/Object", "clone", "()Ljava/lang/Object;"⟩ ∈ lw_gd := List.mem_filter.mpr ⟨List.mem_of_getElem? (i := 1595) (by decide +kernel), by decide +kernel⟩
theorem qk_1601 : Cond.instanceMethod ⟨"java/lang/AbstractStringBuilder", "isLatin1", "()Z"⟩ ∈ lw_gd := List.mem_filter.mpr ⟨List.mem_of_getElem? (i := 1601) (by decide +kernel), by decide +kernel⟩
theorem qk_1603 : Cond.selects "java/lang/StringBuilder" ⟨"java/lang/AbstractStringBuilder", "isLatin1", "()Z"⟩ ⟨"java/lang/AbstractStringBuilder", "isLatin1", "()Z"⟩ ∈ lw_gd := List.mem_filter.mpr ⟨List.mem_of_getElem? (i := 1603) (by decide +kernel), by decide +kernel⟩
theorem qk_1606 : Cond.static ⟨"java/lang/Integer", "getChars", "(II[B)I"⟩ ∈ lw_gd := List.mem_filter.mpr ⟨List.mem_of_getElem? (i := 1606) (by decide +kernel), by decide +kernel⟩
theorem qk_1608 : Cond.fieldLink RJ6 83 "java/lang/Integer" "DigitOnes" "[B" ∈ lw_gd := List.mem_filter.mpr ⟨List.mem_of_getElem? (i := 1608) (by decide +kernel), by decide +kernel⟩
theorem qk_1610 : Cond.fieldLink RJ6 87 "java/lang/Integer" "DigitTens" "[B" ∈ lw_gd := List.mem_filter.mpr ⟨List.mem_of_getElem? (i := 1610) (by decide +kernel), by decide +kernel⟩
theorem qk_1613 : Cond.static ⟨"java/lang/StringUTF16", "getChars", "(III[B)I"⟩ ∈ lw_gd := List.mem_filter.mpr ⟨List.mem_of_getElem? (i := 1613) (by decide +kernel), by decide +kernel⟩
theorem qk_1616 : Cond.static ⟨"java/lang/StringUTF16", "getChars", "(II[B)I"⟩ ∈ lw_gd := List.mem_filter.mpr ⟨List.mem_of_getElem? (i := 1616) (by decide +kernel), by decide +kernel⟩
theorem qk_1620 : Cond.static ⟨"java/lang/StringUTF16", "putChar", "([BII)V"⟩ ∈ lw_gd := List.mem_filter.mpr ⟨List.mem_of_getElem? (i := 1620) (by decide +kernel), by decide +kernel⟩
theorem qk_1625 : Cond.instanceMethod ⟨"java/lang/StringBuilder", "append", "(Ljava/lang/String;)Ljava/lang/StringBuilder;"⟩ ∈ lw_gd := List.mem_filter.mpr ⟨List.mem_of_getElem? (i := 1625) (by decide +kernel), by decide +kernel⟩
theorem qk_1626 : Cond.selects "java/lang/StringBuilder" ⟨"java/lang/StringBuilder", "append", "(Ljava/lang/String;)Ljava/lang/StringBuilder;"⟩ ⟨"java/lang/StringBuilder", "append", "(Ljava/lang/String;)Ljava/lang/StringBuilder;"⟩ ∈ lw_gd := List.mem_filter.mpr ⟨List.mem_of_getElem? (i := 1626) (by decide +kernel), by decide +kernel⟩
theorem qk_1629 : Cond.instanceMethod ⟨"java/lang/AbstractStringBuilder", "append", "(Ljava/lang/String;)Ljava/lang/AbstractStringBuilder;"⟩ ∈ lw_gd := List.mem_filter.mpr ⟨List.mem_of_getElem? (i := 1629) (by decide +kernel), by decide +kernel⟩
theorem qk_1633 : Cond.instanceMethod ⟨"java/lang/AbstractStringBuilder", "appendNull", "()Ljava/lang/AbstractStringBuilder;"⟩ ∈ lw_gd := List.mem_filter.mpr ⟨List.mem_of_getElem? (i := 1633) (by decide +kernel), by decide +kernel⟩
theorem qk_1636 : Cond.static ⟨"java/lang/StringUTF16", "putCharsAt", "([BICCCC)I"⟩ ∈ lw_gd := List.mem_filter.mpr ⟨List.mem_of_getElem? (i := 1636) (by decide +kernel), by decide +kernel⟩
theorem qk_1641 : Cond.instanceMethod ⟨"java/lang/AbstractStringBuilder", "putStringAt", "(ILjava/lang/String;)V"⟩ ∈ lw_gd := List.mem_filter.mpr ⟨List.mem_of_getElem? (i := 1641) (by decide +kernel), by decide +kernel⟩
theorem qk_1645 : Cond.instanceMethod ⟨"java/lang/AbstractStringBuilder", "inflateIfNeededFor", "(Ljava/lang/String;)V"⟩ ∈ lw_gd := List.mem_filter.mpr ⟨List.mem_of_getElem? (i := 1645) (by decide +kernel), by decide +kernel⟩
theorem qk_1650 : Cond.instanceMethod ⟨"java/lang/AbstractStringBuilder", "inflate", "()V"⟩ ∈ lw_gd := List.mem_filter.mpr ⟨List.mem_of_getElem? (i := 1650) (by decide +kernel), by decide +kernel⟩
theorem qk_1653 : Cond.static ⟨"java/lang/StringLatin1", "inflate", "([BI[BII)V"⟩ ∈ lw_gd := List.mem_filter.mpr ⟨List.mem_of_getElem? (i := 1653) (by decide +kernel), by decide +kernel⟩
theorem qk_1656 : Cond.static ⟨"java/lang/StringUTF16", "inflate", "([BI[BII)V"⟩ ∈ lw_gd := List.mem_filter.mpr ⟨List.mem_of_getElem? (i := 1656) (by decide +kernel), by decide +kernel⟩
theorem qk_1659 : Cond.static ⟨"java/lang/StringUTF16", "checkBoundsOffCount", "(II[B)V"⟩ ∈ lw_gd := List.mem_filter.mpr ⟨List.mem_of_getElem? (i := 1659) (by decide +kernel), by decide +kernel⟩
theorem qk_1662 : Cond.static ⟨"java/lang/String", "checkBoundsOffCount", "(III)I"⟩ ∈ lw_gd := List.mem_filter.mpr ⟨List.mem_of_getElem? (i := 1662) (by decide +kernel), by decide +kernel⟩
theorem qk_1665 : Cond.static ⟨"jdk/internal/util/Preconditions", "checkFromIndexSize", "(IIILjava/util/function/BiFunction;)I"⟩ ∈ lw_gd := List.mem_filter.mpr ⟨List.mem_of_getElem? (i := 1665) (by decide +kernel), by decide +kernel⟩
theorem qk_1668 : Cond.instanceMethod ⟨"java/lang/String", "getBytes", "([BIB)V"⟩ ∈ lw_gd := List.mem_filter.mpr ⟨List.mem_of_getElem? (i := 1668) (by decide +kernel), by decide +kernel⟩
theorem qk_1669 : Cond.selects "java/lang/String" ⟨"java/lang/String", "getBytes", "([BIB)V"⟩ ⟨"java/lang/String", "getBytes", "([BIB)V"⟩ ∈ lw_gd := List.mem_filter.mpr ⟨List.mem_of_getElem? (i := 1669) (by decide +kernel), by decide +kernel⟩
theorem qk_1674 : Cond.instanceMethod ⟨"java/lang/StringBuilder", "toString", "()Ljava/lang/String;"⟩ ∈ lw_gd := List.mem_filter.mpr ⟨List.mem_of_getElem? (i := 1674) (by decide +kernel), by decide +kernel⟩
theorem qk_1675 : Cond.selects "java/lang/StringBuilder" ⟨"java/lang/StringBuilder", "toString", "()Ljava/lang/String;"⟩ ⟨"java/lang/StringBuilder", "toString", "()Ljava/lang/String;"⟩ ∈ lw_gd := List.mem_filter.mpr ⟨List.mem_of_getElem? (i := 1675) (by decide +kernel), by decide +kernel⟩
theorem qk_1679 : Cond.instanceMethod ⟨"java/lang/String", "<init>", "(Ljava/lang/StringBuilder;)V"⟩ ∈ lw_gd := List.mem_filter.mpr ⟨List.mem_of_getElem? (i := 1679) (by decide +kernel), by decide +kernel⟩
theorem qk_1682 : Cond.instanceMethod ⟨"java/lang/String", "<init>", "(Ljava/lang/AbstractStringBuilder;Ljava/lang/Void;)V"⟩ ∈ lw_gd := List.mem_filter.mpr ⟨List.mem_of_getElem? (i := 1682) (by decide +kernel), by decide +kernel⟩
theorem qk_1686 : Cond.instanceMethod ⟨"java/lang/AbstractStringBuilder", "getValue", "()[B"⟩ ∈ lw_gd := List.mem_filter.mpr ⟨List.mem_of_getElem? (i := 1686) (by decide +kernel), by decide +kernel⟩
theorem qk_1688 : Cond.selects "java/lang/StringBuilder" ⟨"java/lang/AbstractStringBuilder", "getValue", "()[B"⟩ ⟨"java/lang/AbstractStringBuilder", "getValue", "()[B"⟩ ∈ lw_gd := List.mem_filter.mpr ⟨List.mem_of_getElem? (i := 1688) (by decide +kernel), by decide +kernel⟩
theorem qk_1691 : Cond.instanceMethod ⟨"java/lang/AbstractStringBuilder", "length", "()I"⟩ ∈ lw_gd := List.mem_filter.mpr ⟨List.mem_of_getElem? (i := 1691) (by decide +kernel), by decide +kernel⟩
theorem qk_1693 : Cond.selects "java/lang/StringBuilder" ⟨"java/lang/AbstractStringBuilder", "length", "()I"⟩ ⟨"java/lang/StringBuilder", "length", "()I"⟩ ∈ lw_gd := List.mem_filter.mpr ⟨List.mem_of_getElem? (i := 1693) (by decide +kernel), by decide +kernel⟩
theorem qk_1694 : Cond.instanceMethod ⟨"java/lang/StringBuilder", "length", "()I"⟩ ∈ lw_gd := List.mem_filter.mpr ⟨List.mem_of_getElem? (i := 1694) (by decide +kernel), by decide +kernel⟩
theorem qk_1701 : Cond.static ⟨"java/lang/StringUTF16", "compress", "([BII)[B"⟩ ∈ lw_gd := List.mem_filter.mpr ⟨List.mem_of_getElem? (i := 1701) (by decide +kernel), by decide +kernel⟩
theorem qk_1704 : Cond.static ⟨"java/lang/StringUTF16", "compress", "([BI[BII)I"⟩ ∈ lw_gd := List.mem_filter.mpr ⟨List.mem_of_getElem? (i := 1704) (by decide +kernel), by decide +kernel⟩
theorem qk_1708 : Cond.static ⟨"java/lang/StringUTF16", "coderFromArrayLen", "([BI)B"⟩ ∈ lw_gd := List.mem_filter.mpr ⟨List.mem_of_getElem? (i := 1708) (by decide +kernel), by decide +kernel⟩
theorem qk_1719 : Cond.instanceMethod ⟨"java/lang/String", "<init>", "([BB)V"⟩ ∈ lw_gd := List.mem_filter.mpr ⟨List.mem_of_getElem? (i := 1719) (by decide +kernel), by decide +kernel⟩
theorem qk_1722 : Cond.static ⟨"java/lang/StringUTF16", "newString", "([BII)Ljava/lang/String;"⟩ ∈ lw_gd := List.mem_filter.mpr ⟨List.mem_of_getElem? (i := 1722) (by decide +kernel), by decide +kernel⟩
theorem qk_1730 : Cond.methodLink RX6 221 yX6_common ∈ lw_gd := List.mem_filter.mpr ⟨List.mem_of_getElem? (i := 1730) (by decide +kernel), by decide +kernel⟩
theorem qk_1732 : Cond.instanceMethod yX6_common ∈ lw_gd := List.mem_filter.mpr ⟨List.mem_of_getElem? (i := 1732) (by decide +kernel), by decide +kernel⟩
theorem qk_1733 : Cond.code yX6_common cX6_common 3 (some .int) ∈ lw_gd := List.mem_filter.mpr ⟨List.mem_of_getElem? (i := 1733) (by decide +kernel), by decide +kernel⟩
theorem qk_1734 : Cond.methodLink RX6 225 yX6_skip ∈ lw_gd := List.mem_filter.mpr ⟨List.mem_of_getElem? (i := 1734) (by decide +kernel), by decide +kernel⟩
theorem qk_1736 : Cond.instanceMethod yX6_skip ∈ lw_gd := List.mem_filter.mpr ⟨List.mem_of_getElem? (i := 1736) (by decide +kernel), by decide +kernel⟩
theorem qk_1737 : Cond.code yX6_skip cX6_skip 4 (none) ∈ lw_gd := List.mem_filter.mpr ⟨List.mem_of_getElem? (i := 1737) (by decide +kernel), by decide +kernel⟩
theorem qk_1738 : Cond.methodLink RX6 206 yX6_sign ∈ lw_gd := List.mem_filter.mpr ⟨List.mem_of_getElem? (i := 1738) (by decide +kernel), by decide +kernel⟩
theorem qk_1740 : Cond.instanceMethod yX6_sign ∈ lw_gd := List.mem_filter.mpr ⟨List.mem_of_getElem? (i := 1740) (by decide +kernel), by decide +kernel⟩
theorem qk_1741 : Cond.code yX6_sign cX6_sign 3 (some .int) ∈ lw_gd := List.mem_filter.mpr ⟨List.mem_of_getElem? (i := 1741) (by decide +kernel), by decide +kernel⟩
theorem qk_1742 : Cond.methodLink RX6 200 yX6_isHere ∈ lw_gd := List.mem_filter.mpr ⟨List.mem_of_getElem? (i := 1742) (by decide +kernel), by decide +kernel⟩
theorem qk_1744 : Cond.instanceMethod yX6_isHere ∈ lw_gd := List.mem_filter.mpr ⟨List.mem_of_getElem? (i := 1744) (by decide +kernel), by decide +kernel⟩
theorem qk_1745 : Cond.code yX6_isHere cX6_isHere 3 (some .boolean) ∈ lw_gd := List.mem_filter.mpr ⟨List.mem_of_getElem? (i := 1745) (by decide +kernel), by decide +kernel⟩
theorem qk_1747 : Cond.methodLink RX6 240 yX6_number ∈ lw_gd := List.mem_filter.mpr ⟨List.mem_of_getElem? (i := 1747) (by decide +kernel), by decide +kernel⟩
theorem qk_1749 : Cond.instanceMethod yX6_number ∈ lw_gd := List.mem_filter.mpr ⟨List.mem_of_getElem? (i := 1749) (by decide +kernel), by decide +kernel⟩
theorem qk_1750 : Cond.code yX6_number cX6_number 2 (some .int) ∈ lw_gd := List.mem_filter.mpr ⟨List.mem_of_getElem? (i := 1750) (by decide +kernel), by decide +kernel⟩
theorem qk_1751 : Cond.methodLink RX6 229 yX6_digit ∈ lw_gd := List.mem_filter.mpr ⟨List.mem_of_getElem? (i := 1751) (by decide +kernel), by decide +kernel⟩
theorem qk_1753 : Cond.instanceMethod yX6_digit ∈ lw_gd := List.mem_filter.mpr ⟨List.mem_of_getElem? (i := 1753) (by decide +kernel), by decide +kernel⟩
theorem qk_1754 : Cond.code yX6_digit cX6_digit 1 (some .int) ∈ lw_gd := List.mem_filter.mpr ⟨List.mem_of_getElem? (i := 1754) (by decide +kernel), by decide +kernel⟩
theorem qk_1755 : Cond.methodLink RX6 246 yX6_does ∈ lw_gd := List.mem_filter.mpr ⟨List.mem_of_getElem? (i := 1755) (by decide +kernel), by decide +kernel⟩
theorem qk_1757 : Cond.instanceMethod yX6_does ∈ lw_gd := List.mem_filter.mpr ⟨List.mem_of_getElem? (i := 1757) (by decide +kernel), by decide +kernel⟩
theorem qk_1758 : Cond.code yX6_does cX6_does 5 (none) ∈ lw_gd := List.mem_filter.mpr ⟨List.mem_of_getElem? (i := 1758) (by decide +kernel), by decide +kernel⟩
theorem qk_1759 : Cond.methodLink "QuakeRehearsalLaw" 232 yX6_errorPosition ∈ lw_gd := List.mem_filter.mpr ⟨List.mem_of_getElem? (i := 1759) (by decide +kernel), by decide +kernel⟩
theorem qk_1760 : Cond.instanceMethod yX6_errorPosition ∈ lw_gd := List.mem_filter.mpr ⟨List.mem_of_getElem? (i := 1760) (by decide +kernel), by decide +kernel⟩
theorem qk_1761 : Cond.selects RX6 yX6_errorPosition yX6_errorPosition ∈ lw_gd := List.mem_filter.mpr ⟨List.mem_of_getElem? (i := 1761) (by decide +kernel), by decide +kernel⟩
theorem qk_1762 : Cond.code yX6_errorPosition cX6_errorPosition 1 (some .int) ∈ lw_gd := List.mem_filter.mpr ⟨List.mem_of_getElem? (i := 1762) (by decide +kernel), by decide +kernel⟩
theorem qk_1763 : Cond.methodLink "QuakeRehearsalLaw" 239 yX6_account ∈ lw_gd := List.mem_filter.mpr ⟨List.mem_of_getElem? (i := 1763) (by decide +kernel), by decide +kernel⟩
theorem qk_1764 : Cond.instanceMethod yX6_account ∈ lw_gd := List.mem_filter.mpr ⟨List.mem_of_getElem? (i := 1764) (by decide +kernel), by decide +kernel⟩
theorem qk_1765 : Cond.selects RX6 yX6_account yX6_account ∈ lw_gd := List.mem_filter.mpr ⟨List.mem_of_getElem? (i := 1765) (by decide +kernel), by decide +kernel⟩
theorem qk_1766 : Cond.code yX6_account cX6_account 2 (some .int) ∈ lw_gd := List.mem_filter.mpr ⟨List.mem_of_getElem? (i := 1766) (by decide +kernel), by decide +kernel⟩
theorem qk_1767 : Cond.methodLink RX6 249 yX6_brokenMany ∈ lw_gd := List.mem_filter.mpr ⟨List.mem_of_getElem? (i := 1767) (by decide +kernel), by decide +kernel⟩
theorem qk_1769 : Cond.instanceMethod yX6_brokenMany ∈ lw_gd := List.mem_filter.mpr ⟨List.mem_of_getElem? (i := 1769) (by decide +kernel), by decide +kernel⟩
theorem qk_1770 : Cond.code yX6_brokenMany cX6_brokenMany 3 (some .int) ∈ lw_gd := List.mem_filter.mpr ⟨List.mem_of_getElem? (i := 1770) (by decide +kernel), by decide +kernel⟩
theorem qk_1771 : Cond.methodLink "QuakeRehearsalLaw" 244 yX6_isWell ∈ lw_gd := List.mem_filter.mpr ⟨List.mem_of_getElem? (i := 1771) (by decide +kernel), by decide +kernel⟩
theorem qk_1772 : Cond.instanceMethod yX6_isWell ∈ lw_gd := List.mem_filter.mpr ⟨List.mem_of_getElem? (i := 1772) (by decide +kernel), by decide +kernel⟩
theorem qk_1773 : Cond.selects RX6 yX6_isWell yX6_isWell ∈ lw_gd := List.mem_filter.mpr ⟨List.mem_of_getElem? (i := 1773) (by decide +kernel), by decide +kernel⟩
theorem qk_1774 : Cond.code yX6_isWell cX6_isWell 1 (some .boolean) ∈ lw_gd := List.mem_filter.mpr ⟨List.mem_of_getElem? (i := 1774) (by decide +kernel), by decide +kernel⟩
theorem qk_1775 : Cond.methodLink "QuakeRehearsalLaw" 248 yX6_meanGrade ∈ lw_gd := List.mem_filter.mpr ⟨List.mem_of_getElem? (i := 1775) (by decide +kernel), by decide +kernel⟩
theorem qk_1776 : Cond.instanceMethod yX6_meanGrade ∈ lw_gd := List.mem_filter.mpr ⟨List.mem_of_getElem? (i := 1776) (by decide +kernel), by decide +kernel⟩
theorem qk_1777 : Cond.selects RX6 yX6_meanGrade yX6_meanGrade ∈ lw_gd := List.mem_filter.mpr ⟨List.mem_of_getElem? (i := 1777) (by decide +kernel), by decide +kernel⟩
theorem qk_1778 : Cond.code yX6_meanGrade cX6_meanGrade 4 (some .double) ∈ lw_gd := List.mem_filter.mpr ⟨List.mem_of_getElem? (i := 1778) (by decide +kernel), by decide +kernel⟩
theorem qk_1779 : Cond.methodLink "QuakeRehearsalLaw" 251 yX6_brokenShare ∈ lw_gd := List.mem_filter.mpr ⟨List.mem_of_getElem? (i := 1779) (by decide +kernel), by decide +kernel⟩
theorem qk_1780 : Cond.instanceMethod yX6_brokenShare ∈ lw_gd := List.mem_filter.mpr ⟨List.mem_of_getElem? (i := 1780) (by decide +kernel), by decide +kernel⟩
theorem qk_1781 : Cond.selects RX6 yX6_brokenShare yX6_brokenShare ∈ lw_gd := List.mem_filter.mpr ⟨List.mem_of_getElem? (i := 1781) (by decide +kernel), by decide +kernel⟩
theorem qk_1782 : Cond.code yX6_brokenShare cX6_brokenShare 2 (some .float) ∈ lw_gd := List.mem_filter.mpr ⟨List.mem_of_getElem? (i := 1782) (by decide +kernel), by decide +kernel⟩
theorem qk_1783 : Cond.methodLink "QuakeRehearsalLaw" 254 yX6_undo ∈ lw_gd := List.mem_filter.mpr ⟨List.mem_of_getElem? (i := 1783) (by decide +kernel), by decide +kernel⟩
theorem qk_1784 : Cond.instanceMethod yX6_undo ∈ lw_gd := List.mem_filter.mpr ⟨List.mem_of_getElem? (i := 1784) (by decide +kernel), by decide +kernel⟩
theorem qk_1785 : Cond.selects RX6 yX6_undo yX6_undo ∈ lw_gd := List.mem_filter.mpr ⟨List.mem_of_getElem? (i := 1785) (by decide +kernel), by decide +kernel⟩
theorem qk_1786 : Cond.code yX6_undo cX6_undo 1 (some .int) ∈ lw_gd := List.mem_filter.mpr ⟨List.mem_of_getElem? (i := 1786) (by decide +kernel), by decide +kernel⟩
theorem qk_1787 : Cond.methodLink "QuakeRehearsalLaw" 258 yX6_save ∈ lw_gd := List.mem_filter.mpr ⟨List.mem_of_getElem? (i := 1787) (by decide +kernel), by decide +kernel⟩
theorem qk_1788 : Cond.instanceMethod yX6_save ∈ lw_gd := List.mem_filter.mpr ⟨List.mem_of_getElem? (i := 1788) (by decide +kernel), by decide +kernel⟩
theorem qk_1789 : Cond.selects RX6 yX6_save yX6_save ∈ lw_gd := List.mem_filter.mpr ⟨List.mem_of_getElem? (i := 1789) (by decide +kernel), by decide +kernel⟩
theorem qk_1790 : Cond.code yX6_save cX6_save 1 (some .int) ∈ lw_gd := List.mem_filter.mpr ⟨List.mem_of_getElem? (i := 1790) (by decide +kernel), by decide +kernel⟩
theorem qk_1791 : Cond.methodLink "QuakeRehearsalLaw" 261 yX6_restore ∈ lw_gd := List.mem_filter.mpr ⟨List.mem_of_getElem? (i := 1791) (by decide +kernel), by decide +kernel⟩
theorem qk_1792 : Cond.instanceMethod yX6_restore ∈ lw_gd := List.mem_filter.mpr ⟨List.mem_of_getElem? (i := 1792) (by decide +kernel), by decide +kernel⟩
theorem qk_1793 : Cond.selects RX6 yX6_restore yX6_restore ∈ lw_gd := List.mem_filter.mpr ⟨List.mem_of_getElem? (i := 1793) (by decide +kernel), by decide +kernel⟩
theorem qk_1794 : Cond.code yX6_restore cX6_restore 1 (some .int) ∈ lw_gd := List.mem_filter.mpr ⟨List.mem_of_getElem? (i := 1794) (by decide +kernel), by decide +kernel⟩
end
section
theorem dJ6_compare_7cf53_0 : decode cJ6_compare_7cf53 0 = .ok (.iload_n 0, 1) := by decide +kernel
theorem dJ6_compare_7cf53_1 : decode cJ6_compare_7cf53 1 = .ok (.iload_n 1, 1) := by decide +kernel
theorem dJ6_compare_7cf53_2 : decode cJ6_compare_7cf53 2 = .ok (.if_icmp .ge 7, 3) := by decide +kernel
theorem dJ6_compare_7cf53_5 : decode cJ6_compare_7cf53 5 = .ok (.iconst (-1), 1) := by decide +kernel
theorem dJ6_compare_7cf53_6 : decode cJ6_compare_7cf53 6 = .ok (.goto 13, 3) := by decide +kernel
theorem dJ6_compare_7cf53_9 : decode cJ6_compare_7cf53 9 = .ok (.iload_n 0, 1) := by decide +kernel
theorem dJ6_compare_7cf53_10 : decode cJ6_compare_7cf53 10 = .ok (.iload_n 1, 1) := by decide +kernel
theorem dJ6_compare_7cf53_11 : decode cJ6_compare_7cf53 11 = .ok (.if_icmp .ne 7, 3) := by decide +kernel
theorem dJ6_compare_7cf53_14 : decode cJ6_compare_7cf53 14 = .ok (.iconst 0, 1) := by decide +kernel
theorem dJ6_compare_7cf53_15 : decode cJ6_compare_7cf53 15 = .ok (.goto 4, 3) := by decide +kernel
theorem dJ6_compare_7cf53_18 : decode cJ6_compare_7cf53 18 = .ok (.iconst 1, 1) := by decide +kernel
theorem dJ6_compare_7cf53_19 : decode cJ6_compare_7cf53 19 = .ok (.ireturn, 1) := by decide +kernel
end
section
theorem dX3_init_0 : decode cX3_init 0 = .ok (.aload_n 0, 1) := by decide +kernel
theorem dX3_init_1 : decode cX3_init 1 = .ok (.invokespecial 3, 3) := by decide +kernel
theorem dX3_init_4 : decode cX3_init 4 = .ok (.aload_n 0, 1) := by decide +kernel
theorem dX3_init_5 : decode cX3_init 5 = .ok (.iconst 0, 1) := by decide +kernel
theorem dX3_init_6 : decode cX3_init 6 = .ok (.putfield 9, 3) := by decide +kernel
theorem dX3_init_9 : decode cX3_init 9 = .ok (.aload_n 0, 1) := by decide +kernel
theorem dX3_init_10 : decode cX3_init 10 = .ok (.iconst 0, 1) := by decide +kernel
theorem dX3_init_11 : decode cX3_init 11 = .ok (.putfield 15, 3) := by decide +kernel
theorem dX3_init_14 : decode cX3_init 14 = .ok (.aload_n 0, 1) := by decide +kernel
theorem dX3_init_15 : decode cX3_init 15 = .ok (.iconst 0, 1) := by decide +kernel
theorem dX3_init_16 : decode cX3_init 16 = .ok (.putfield 18, 3) := by decide +kernel
theorem dX3_init_19 : decode cX3_init 19 = .ok (.aload_n 0, 1) := by decide +kernel
theorem dX3_init_20 : decode cX3_init 20 = .ok (.iconst 0, 1) := by decide +kernel
theorem dX3_init_21 : decode cX3_init 21 = .ok (.putfield 21, 3) := by decide +kernel
theorem dX3_init_24 : decode cX3_init 24 = .ok (.aload_n 0, 1) := by decide +kernel
theorem dX3_init_25 : decode cX3_init 25 = .ok (.iconst 0, 1) := by decide +kernel
theorem dX3_init_26 : decode cX3_init 26 = .ok (.putfield 24, 3) := by decide +kernel
theorem dX3_init_29 : decode cX3_init 29 = .ok (.aload_n 0, 1) := by decide +kernel
theorem dX3_init_30 : decode cX3_init 30 = .ok (.iconst 0, 1) := by decide +kernel
theorem dX3_init_31 : decode cX3_init 31 = .ok (.putfield 28, 3) := by decide +kernel
theorem dX3_init_34 : decode cX3_init 34 = .ok (.aload_n 0, 1) := by decide +kernel
theorem dX3_init_35 : decode cX3_init 35 = .ok (.iconst 0, 1) := by decide +kernel
theorem dX3_init_36 : decode cX3_init 36 = .ok (.putfield 31, 3) := by decide +kernel
theorem dX3_init_39 : decode cX3_init 39 = .ok (.return_, 1) := by decide +kernel
theorem dX3_begin_0 : decode cX3_begin 0 = .ok (.aload_n 0, 1) := by decide +kernel
theorem dX3_begin_1 : decode cX3_begin 1 = .ok (.iload_n 1, 1) := by decide +kernel
theorem dX3_begin_2 : decode cX3_begin 2 = .ok (.putfield 9, 3) := by decide +kernel
theorem dX3_begin_5 : decode cX3_begin 5 = .ok (.aload_n 0, 1) := by decide +kernel
theorem dX3_begin_6 : decode cX3_begin 6 = .ok (.iload_n 2, 1) := by decide +kernel
theorem dX3_begin_7 : decode cX3_begin 7 = .ok (.putfield 15, 3) := by decide +kernel
theorem dX3_begin_10 : decode cX3_begin 10 = .ok (.aload_n 0, 1) := by decide +kernel
theorem dX3_begin_11 : decode cX3_begin 11 = .ok (.iload_n 3, 1) := by decide +kernel
theorem dX3_begin_12 : decode cX3_begin 12 = .ok (.putfield 18, 3) := by decide +kernel
theorem dX3_begin_15 : decode cX3_begin 15 = .ok (.aload_n 0, 1) := by decide +kernel
theorem dX3_begin_16 : decode cX3_begin 16 = .ok (.iconst 0, 1) := by decide +kernel
theorem dX3_begin_17 : decode cX3_begin 17 = .ok (.putfield 21, 3) := by decide +kernel
theorem dX3_begin_20 : decode cX3_begin 20 = .ok (.aload_n 0, 1) := by decide +kernel
theorem dX3_begin_21 : decode cX3_begin 21 = .ok (.iconst 0, 1) := by decide +kernel
theorem dX3_begin_22 : decode cX3_begin 22 = .ok (.putfield 24, 3) := by decide +kernel
theorem dX3_begin_25 : decode cX3_begin 25 = .ok (.aload_n 0, 1) := by decide +kernel
theorem dX3_begin_26 : decode cX3_begin 26 = .ok (.iconst 0, 1) := by decide +kernel
theorem dX3_begin_27 : decode cX3_begin 27 = .ok (.putfield 28, 3) := by decide +kernel
theorem dX3_begin_30 : decode cX3_begin 30 = .ok (.aload_n 0, 1) := by decide +kernel
theorem dX3_begin_31 : decode cX3_begin 31 = .ok (.iconst 0, 1) := by decide +kernel
theorem dX3_begin_32 : decode cX3_begin 32 = .ok (.putfield 31, 3) := by decide +kernel
theorem dX3_begin_35 : decode cX3_begin 35 = .ok (.return_, 1) := by decide +kernel
theorem dX3_copyFrom_0 : decode cX3_copyFrom 0 = .ok (.aload_n 0, 1) := by decide +kernel
theorem dX3_copyFrom_1 : decode cX3_copyFrom 1 = .ok (.aload_n 1, 1) := by decide +kernel
theorem dX3_copyFrom_2 : decode cX3_copyFrom 2 = .ok (.getfield 9, 3) := by decide +kernel
theorem dX3_copyFrom_5 : decode cX3_copyFrom 5 = .ok (.putfield 9, 3) := by decide +kernel
theorem dX3_copyFrom_8 : decode cX3_copyFrom 8 = .ok (.aload_n 0, 1) := by decide +kernel
theorem dX3_copyFrom_9 : decode cX3_copyFrom 9 = .ok (.aload_n 1, 1) := by decide +kernel
theorem dX3_copyFrom_10 : decode cX3_copyFrom 10 = .ok (.getfield 15, 3) := by decide +kernel
theorem dX3_copyFrom_13 : decode cX3_copyFrom 13 = .ok (.putfield 15, 3) := by decide +kernel
theorem dX3_copyFrom_16 : decode cX3_copyFrom 16 = .ok (.aload_n 0, 1) := by decide +kernel
theorem dX3_copyFrom_17 : decode cX3_copyFrom 17 = .ok (.aload_n 1, 1) := by decide +kernel
theorem dX3_copyFrom_18 : decode cX3_copyFrom 18 = .ok (.getfield 18, 3) := by decide +kernel
theorem dX3_copyFrom_21 : decode cX3_copyFrom 21 = .ok (.putfield 18, 3) := by decide +kernel
theorem dX3_copyFrom_24 : decode cX3_copyFrom 24 = .ok (.aload_n 0, 1) := by decide +kernel
theorem dX3_copyFrom_25 : decode cX3_copyFrom 25 = .ok (.aload_n 1, 1) := by decide +kernel
theorem dX3_copyFrom_26 : decode cX3_copyFrom 26 = .ok (.getfield 21, 3) := by decide +kernel
theorem dX3_copyFrom_29 : decode cX3_copyFrom 29 = .ok (.putfield 21, 3) := by decide +kernel
theorem dX3_copyFrom_32 : decode cX3_copyFrom 32 = .ok (.aload_n 0, 1) := by decide +kernel
theorem dX3_copyFrom_33 : decode cX3_copyFrom 33 = .ok (.aload_n 1, 1) := by decide +kernel
theorem dX3_copyFrom_34 : decode cX3_copyFrom 34 = .ok (.getfield 24, 3) := by decide +kernel
theorem dX3_copyFrom_37 : decode cX3_copyFrom 37 = .ok (.putfield 24, 3) := by decide +kernel
theorem dX3_copyFrom_40 : decode cX3_copyFrom 40 = .ok (.aload_n 0, 1) := by decide +kernel
theorem dX3_copyFrom_41 : decode cX3_copyFrom 41 = .ok (.aload_n 1, 1) := by decide +kernel
theorem dX3_copyFrom_42 : decode cX3_copyFrom 42 = .ok (.getfield 28, 3) := by decide +kernel
theorem dX3_copyFrom_45 : decode cX3_copyFrom 45 = .ok (.putfield 28, 3) := by decide +kernel
theorem dX3_copyFrom_48 : decode cX3_copyFrom 48 = .ok (.aload_n 0, 1) := by decide +kernel
theorem dX3_copyFrom_49 : decode cX3_copyFrom 49 = .ok (.aload_n 1, 1) := by decide +kernel
theorem dX3_copyFrom_50 : decode cX3_copyFrom 50 = .ok (.getfield 31, 3) := by decide +kernel
theorem dX3_copyFrom_53 : decode cX3_copyFrom 53 = .ok (.putfield 31, 3) := by decide +kernel
theorem dX3_copyFrom_56 : decode cX3_copyFrom 56 = .ok (.return_, 1) := by decide +kernel
theorem dX3_shakeCup_0 : decode cX3_shakeCup 0 = .ok (.aload_n 0, 1) := by decide +kernel
theorem dX3_shakeCup_1 : decode cX3_shakeCup 1 = .ok (.getfield 24, 3) := by decide +kernel
theorem dX3_shakeCup_4 : decode cX3_shakeCup 4 = .ok (.ifCond .eq 5, 3) := by decide +kernel
theorem dX3_shakeCup_7 : decode cX3_shakeCup 7 = .ok (.iconst 0, 1) := by decide +kernel
theorem dX3_shakeCup_8 : decode cX3_shakeCup 8 = .ok (.ireturn, 1) := by decide +kernel
theorem dX3_shakeCup_9 : decode cX3_shakeCup 9 = .ok (.iload_n 1, 1) := by decide +kernel
theorem dX3_shakeCup_10 : decode cX3_shakeCup 10 = .ok (.aload_n 0, 1) := by decide +kernel
theorem dX3_shakeCup_11 : decode cX3_shakeCup 11 = .ok (.getfield 18, 3) := by decide +kernel
theorem dX3_shakeCup_14 : decode cX3_shakeCup 14 = .ok (.if_icmp .lt 55, 3) := by decide +kernel
theorem dX3_shakeCup_17 : decode cX3_shakeCup 17 = .ok (.aload_n 0, 1) := by decide +kernel
theorem dX3_shakeCup_18 : decode cX3_shakeCup 18 = .ok (.dup, 1) := by decide +kernel
theorem dX3_shakeCup_19 : decode cX3_shakeCup 19 = .ok (.getfield 21, 3) := by decide +kernel
theorem dX3_shakeCup_22 : decode cX3_shakeCup 22 = .ok (.iconst 1, 1) := by decide +kernel
theorem dX3_shakeCup_23 : decode cX3_shakeCup 23 = .ok (.iadd, 1) := by decide +kernel
theorem dX3_shakeCup_24 : decode cX3_shakeCup 24 = .ok (.putfield 21, 3) := by decide +kernel
theorem dX3_shakeCup_27 : decode cX3_shakeCup 27 = .ok (.aload_n 0, 1) := by decide +kernel
theorem dX3_shakeCup_28 : decode cX3_shakeCup 28 = .ok (.aload_n 0, 1) := by decide +kernel
theorem dX3_shakeCup_29 : decode cX3_shakeCup 29 = .ok (.getfield 18, 3) := by decide +kernel
theorem dX3_shakeCup_32 : decode cX3_shakeCup 32 = .ok (.iconst 1, 1) := by decide +kernel
theorem dX3_shakeCup_33 : decode cX3_shakeCup 33 = .ok (.if_icmp .le 12, 3) := by decide +kernel
theorem dX3_shakeCup_36 : decode cX3_shakeCup 36 = .ok (.aload_n 0, 1) := by decide +kernel
theorem dX3_shakeCup_37 : decode cX3_shakeCup 37 = .ok (.getfield 18, 3) := by decide +kernel
theorem dX3_shakeCup_40 : decode cX3_shakeCup 40 = .ok (.iconst 1, 1) := by decide +kernel
theorem dX3_shakeCup_41 : decode cX3_shakeCup 41 = .ok (.isub, 1) := by decide +kernel
theorem dX3_shakeCup_42 : decode cX3_shakeCup 42 = .ok (.goto 4, 3) := by decide +kernel
theorem dX3_shakeCup_45 : decode cX3_shakeCup 45 = .ok (.iconst 1, 1) := by decide +kernel
theorem dX3_shakeCup_46 : decode cX3_shakeCup 46 = .ok (.putfield 18, 3) := by decide +kernel
theorem dX3_shakeCup_49 : decode cX3_shakeCup 49 = .ok (.aload_n 0, 1) := by decide +kernel
theorem dX3_shakeCup_50 : decode cX3_shakeCup 50 = .ok (.aload_n 0, 1) := by decide +kernel
theorem dX3_shakeCup_51 : decode cX3_shakeCup 51 = .ok (.getfield 21, 3) := by decide +kernel
theorem dX3_shakeCup_54 : decode cX3_shakeCup 54 = .ok (.iconst 3, 1) := by decide +kernel
theorem dX3_shakeCup_55 : decode cX3_shakeCup 55 = .ok (.if_icmp .lt 7, 3) := by decide +kernel
theorem dX3_shakeCup_58 : decode cX3_shakeCup 58 = .ok (.iconst 1, 1) := by decide +kernel
theorem dX3_shakeCup_59 : decode cX3_shakeCup 59 = .ok (.goto 4, 3) := by decide +kernel
theorem dX3_shakeCup_62 : decode cX3_shakeCup 62 = .ok (.iconst 0, 1) := by decide +kernel
theorem dX3_shakeCup_63 : decode cX3_shakeCup 63 = .ok (.putfield 24, 3) := by decide +kernel
theorem dX3_shakeCup_66 : decode cX3_shakeCup 66 = .ok (.goto 23, 3) := by decide +kernel
theorem dX3_shakeCup_69 : decode cX3_shakeCup 69 = .ok (.iconst 2, 1) := by decide +kernel
theorem dX3_shakeCup_70 : decode cX3_shakeCup 70 = .ok (.iload_n 1, 1) := by decide +kernel
theorem dX3_shakeCup_71 : decode cX3_shakeCup 71 = .ok (.imul, 1) := by decide +kernel
theorem dX3_shakeCup_72 : decode cX3_shakeCup 72 = .ok (.aload_n 0, 1) := by decide +kernel
theorem dX3_shakeCup_73 : decode cX3_shakeCup 73 = .ok (.getfield 18, 3) := by decide +kernel
theorem dX3_shakeCup_76 : decode cX3_shakeCup 76 = .ok (.if_icmp .lt 13, 3) := by decide +kernel
theorem dX3_shakeCup_79 : decode cX3_shakeCup 79 = .ok (.aload_n 0, 1) := by decide +kernel
theorem dX3_shakeCup_80 : decode cX3_shakeCup 80 = .ok (.dup, 1) := by decide +kernel
theorem dX3_shakeCup_81 : decode cX3_shakeCup 81 = .ok (.getfield 31, 3) := by decide +kernel
theorem dX3_shakeCup_84 : decode cX3_shakeCup 84 = .ok (.iconst 1, 1) := by decide +kernel
theorem dX3_shakeCup_85 : decode cX3_shakeCup 85 = .ok (.iadd, 1) := by decide +kernel
theorem dX3_shakeCup_86 : decode cX3_shakeCup 86 = .ok (.putfield 31, 3) := by decide +kernel
theorem dX3_shakeCup_89 : decode cX3_shakeCup 89 = .ok (.aload_n 0, 1) := by decide +kernel
theorem dX3_shakeCup_90 : decode cX3_shakeCup 90 = .ok (.getfield 24, 3) := by decide +kernel
theorem dX3_shakeCup_93 : decode cX3_shakeCup 93 = .ok (.ireturn, 1) := by decide +kernel
theorem dX3_shakeLamp_0 : decode cX3_shakeLamp 0 = .ok (.aload_n 0, 1) := by decide +kernel
theorem dX3_shakeLamp_1 : decode cX3_shakeLamp 1 = .ok (.getfield 24, 3) := by decide +kernel
theorem dX3_shakeLamp_4 : decode cX3_shakeLamp 4 = .ok (.ifCond .eq 5, 3) := by decide +kernel
theorem dX3_shakeLamp_7 : decode cX3_shakeLamp 7 = .ok (.iconst 0, 1) := by decide +kernel
theorem dX3_shakeLamp_8 : decode cX3_shakeLamp 8 = .ok (.ireturn, 1) := by decide +kernel
theorem dX3_shakeLamp_9 : decode cX3_shakeLamp 9 = .ok (.aload_n 0, 1) := by decide +kernel
theorem dX3_shakeLamp_10 : decode cX3_shakeLamp 10 = .ok (.aload_n 0, 1) := by decide +kernel
theorem dX3_shakeLamp_11 : decode cX3_shakeLamp 11 = .ok (.iload_n 1, 1) := by decide +kernel
theorem dX3_shakeLamp_12 : decode cX3_shakeLamp 12 = .ok (.iload_n 2, 1) := by decide +kernel
theorem dX3_shakeLamp_13 : decode cX3_shakeLamp 13 = .ok (.invokevirtual 34, 3) := by decide +kernel
theorem dX3_shakeLamp_16 : decode cX3_shakeLamp 16 = .ok (.putfield 21, 3) := by decide +kernel
theorem dX3_shakeLamp_19 : decode cX3_shakeLamp 19 = .ok (.aload_n 0, 1) := by decide +kernel
theorem dX3_shakeLamp_20 : decode cX3_shakeLamp 20 = .ok (.aload_n 0, 1) := by decide +kernel
theorem dX3_shakeLamp_21 : decode cX3_shakeLamp 21 = .ok (.getfield 21, 3) := by decide +kernel
theorem dX3_shakeLamp_24 : decode cX3_shakeLamp 24 = .ok (.bipush 20, 2) := by decide +kernel
theorem dX3_shakeLamp_26 : decode cX3_shakeLamp 26 = .ok (.if_icmp .le 7, 3) := by decide +kernel
theorem dX3_shakeLamp_29 : decode cX3_shakeLamp 29 = .ok (.iconst 1, 1) := by decide +kernel
theorem dX3_shakeLamp_30 : decode cX3_shakeLamp 30 = .ok (.goto 4, 3) := by decide +kernel
theorem dX3_shakeLamp_33 : decode cX3_shakeLamp 33 = .ok (.iconst 0, 1) := by decide +kernel
theorem dX3_shakeLamp_34 : decode cX3_shakeLamp 34 = .ok (.putfield 24, 3) := by decide +kernel
theorem dX3_shakeLamp_37 : decode cX3_shakeLamp 37 = .ok (.aload_n 0, 1) := by decide +kernel
theorem dX3_shakeLamp_38 : decode cX3_shakeLamp 38 = .ok (.getfield 24, 3) := by decide +kernel
theorem dX3_shakeLamp_41 : decode cX3_shakeLamp 41 = .ok (.ireturn, 1) := by decide +kernel
theorem dX3_swingAfter_0 : decode cX3_swingAfter 0 = .ok (.aload_n 0, 1) := by decide +kernel
theorem dX3_swingAfter_1 : decode cX3_swingAfter 1 = .ok (.getfield 21, 3) := by decide +kernel
theorem dX3_swingAfter_4 : decode cX3_swingAfter 4 = .ok (.ifCond .le 12, 3) := by decide +kernel
theorem dX3_swingAfter_7 : decode cX3_swingAfter 7 = .ok (.aload_n 0, 1) := by decide +kernel
theorem dX3_swingAfter_8 : decode cX3_swingAfter 8 = .ok (.getfield 21, 3) := by decide +kernel
theorem dX3_swingAfter_11 : decode cX3_swingAfter 11 = .ok (.iconst 1, 1) := by decide +kernel
theorem dX3_swingAfter_12 : decode cX3_swingAfter 12 = .ok (.isub, 1) := by decide +kernel
theorem dX3_swingAfter_13 : decode cX3_swingAfter 13 = .ok (.goto 4, 3) := by decide +kernel
theorem dX3_swingAfter_16 : decode cX3_swingAfter 16 = .ok (.iconst 0, 1) := by decide +kernel
theorem dX3_swingAfter_17 : decode cX3_swingAfter 17 = .ok (.istore_n 3, 1) := by decide +kernel
theorem dX3_swingAfter_18 : decode cX3_swingAfter 18 = .ok (.iload_n 1, 1) := by decide +kernel
theorem dX3_swingAfter_19 : decode cX3_swingAfter 19 = .ok (.ifCond .le 17, 3) := by decide +kernel
theorem dX3_swingAfter_22 : decode cX3_swingAfter 22 = .ok (.aload_n 0, 1) := by decide +kernel
theorem dX3_swingAfter_23 : decode cX3_swingAfter 23 = .ok (.getfield 21, 3) := by decide +kernel
theorem dX3_swingAfter_26 : decode cX3_swingAfter 26 = .ok (.iload_n 1, 1) := by decide +kernel
theorem dX3_swingAfter_27 : decode cX3_swingAfter 27 = .ok (.iadd, 1) := by decide +kernel
theorem dX3_swingAfter_28 : decode cX3_swingAfter 28 = .ok (.aload_n 0, 1) := by decide +kernel
theorem dX3_swingAfter_29 : decode cX3_swingAfter 29 = .ok (.getfield 18, 3) := by decide +kernel
theorem dX3_swingAfter_32 : decode cX3_swingAfter 32 = .ok (.iload_n 1, 1) := by decide +kernel
theorem dX3_swingAfter_33 : decode cX3_swingAfter 33 = .ok (.irem, 1) := by decide +kernel
theorem dX3_swingAfter_34 : decode cX3_swingAfter 34 = .ok (.iadd, 1) := by decide +kernel
theorem dX3_swingAfter_35 : decode cX3_swingAfter 35 = .ok (.istore_n 3, 1) := by decide +kernel
theorem dX3_swingAfter_36 : decode cX3_swingAfter 36 = .ok (.aload_n 0, 1) := by decide +kernel
theorem dX3_swingAfter_37 : decode cX3_swingAfter 37 = .ok (.getfield 28, 3) := by decide +kernel
theorem dX3_swingAfter_40 : decode cX3_swingAfter 40 = .ok (.iload_n 2, 1) := by decide +kernel
theorem dX3_swingAfter_41 : decode cX3_swingAfter 41 = .ok (.if_icmp .ne 9, 3) := by decide +kernel
theorem dX3_swingAfter_44 : decode cX3_swingAfter 44 = .ok (.iload_n 3, 1) := by decide +kernel
theorem dX3_swingAfter_45 : decode cX3_swingAfter 45 = .ok (.iconst 2, 1) := by decide +kernel
theorem dX3_swingAfter_46 : decode cX3_swingAfter 46 = .ok (.idiv, 1) := by decide +kernel
theorem dX3_swingAfter_47 : decode cX3_swingAfter 47 = .ok (.goto 4, 3) := by decide +kernel
theorem dX3_swingAfter_50 : decode cX3_swingAfter 50 = .ok (.iload_n 3, 1) := by decide +kernel
theorem dX3_swingAfter_51 : decode cX3_swingAfter 51 = .ok (.ireturn, 1) := by decide +kernel
theorem dX3_judge_0 : decode cX3_judge 0 = .ok (.iload_n 2, 1) := by decide +kernel
theorem dX3_judge_1 : decode cX3_judge 1 = .ok (.ifCond .eq 26, 3) := by decide +kernel
theorem dX3_judge_4 : decode cX3_judge 4 = .ok (.aload_n 0, 1) := by decide +kernel
theorem dX3_judge_5 : decode cX3_judge 5 = .ok (.aload_n 0, 1) := by decide +kernel
theorem dX3_judge_6 : decode cX3_judge 6 = .ok (.getfield 18, 3) := by decide +kernel
theorem dX3_judge_9 : decode cX3_judge 9 = .ok (.ifCond .le 12, 3) := by decide +kernel
theorem dX3_judge_12 : decode cX3_judge 12 = .ok (.aload_n 0, 1) := by decide +kernel
theorem dX3_judge_13 : decode cX3_judge 13 = .ok (.getfield 18, 3) := by decide +kernel
theorem dX3_judge_16 : decode cX3_judge 16 = .ok (.iconst 1, 1) := by decide +kernel
theorem dX3_judge_17 : decode cX3_judge 17 = .ok (.isub, 1) := by decide +kernel
theorem dX3_judge_18 : decode cX3_judge 18 = .ok (.goto 4, 3) := by decide +kernel
theorem dX3_judge_21 : decode cX3_judge 21 = .ok (.iconst 0, 1) := by decide +kernel
theorem dX3_judge_22 : decode cX3_judge 22 = .ok (.putfield 18, 3) := by decide +kernel
theorem dX3_judge_25 : decode cX3_judge 25 = .ok (.iconst 0, 1) := by decide +kernel
theorem dX3_judge_26 : decode cX3_judge 26 = .ok (.ireturn, 1) := by decide +kernel
theorem dX3_judge_27 : decode cX3_judge 27 = .ok (.iconst 5, 1) := by decide +kernel
theorem dX3_judge_28 : decode cX3_judge 28 = .ok (.aload_n 0, 1) := by decide +kernel
theorem dX3_judge_29 : decode cX3_judge 29 = .ok (.getfield 18, 3) := by decide +kernel
theorem dX3_judge_32 : decode cX3_judge 32 = .ok (.iload_n 1, 1) := by decide +kernel
theorem dX3_judge_33 : decode cX3_judge 33 = .ok (.isub, 1) := by decide +kernel
theorem dX3_judge_34 : decode cX3_judge 34 = .ok (.invokestatic 38, 3) := by decide +kernel
theorem dX3_judge_37 : decode cX3_judge 37 = .ok (.isub, 1) := by decide +kernel
theorem dX3_judge_38 : decode cX3_judge 38 = .ok (.istore_n 3, 1) := by decide +kernel
theorem dX3_judge_39 : decode cX3_judge 39 = .ok (.iload_n 3, 1) := by decide +kernel
theorem dX3_judge_40 : decode cX3_judge 40 = .ok (.ifCond .ge 5, 3) := by decide +kernel
theorem dX3_judge_43 : decode cX3_judge 43 = .ok (.iconst 0, 1) := by decide +kernel
theorem dX3_judge_44 : decode cX3_judge 44 = .ok (.istore_n 3, 1) := by decide +kernel
theorem dX3_judge_45 : decode cX3_judge 45 = .ok (.aload_n 0, 1) := by decide +kernel
theorem dX3_judge_46 : decode cX3_judge 46 = .ok (.dup, 1) := by decide +kernel
theorem dX3_judge_47 : decode cX3_judge 47 = .ok (.getfield 31, 3) := by decide +kernel
theorem dX3_judge_50 : decode cX3_judge 50 = .ok (.iload_n 3, 1) := by decide +kernel
theorem dX3_judge_51 : decode cX3_judge 51 = .ok (.iadd, 1) := by decide +kernel
theorem dX3_judge_52 : decode cX3_judge 52 = .ok (.putfield 31, 3) := by decide +kernel
theorem dX3_judge_55 : decode cX3_judge 55 = .ok (.iload_n 3, 1) := by decide +kernel
theorem dX3_judge_56 : decode cX3_judge 56 = .ok (.ireturn, 1) := by decide +kernel
theorem dX3_wouldBreakBy_0 : decode cX3_wouldBreakBy 0 = .ok (.aload_n 0, 1) := by decide +kernel
theorem dX3_wouldBreakBy_1 : decode cX3_wouldBreakBy 1 = .ok (.getfield 9, 3) := by decide +kernel
theorem dX3_wouldBreakBy_4 : decode cX3_wouldBreakBy 4 = .ok (.iconst 1, 1) := by decide +kernel
theorem dX3_wouldBreakBy_5 : decode cX3_wouldBreakBy 5 = .ok (.if_icmp .ne 25, 3) := by decide +kernel
theorem dX3_wouldBreakBy_8 : decode cX3_wouldBreakBy 8 = .ok (.aload_n 0, 1) := by decide +kernel
theorem dX3_wouldBreakBy_9 : decode cX3_wouldBreakBy 9 = .ok (.getfield 21, 3) := by decide +kernel
theorem dX3_wouldBreakBy_12 : decode cX3_wouldBreakBy 12 = .ok (.iconst 2, 1) := by decide +kernel
theorem dX3_wouldBreakBy_13 : decode cX3_wouldBreakBy 13 = .ok (.if_icmp .ne 15, 3) := by decide +kernel
theorem dX3_wouldBreakBy_16 : decode cX3_wouldBreakBy 16 = .ok (.iload_n 1, 1) := by decide +kernel
theorem dX3_wouldBreakBy_17 : decode cX3_wouldBreakBy 17 = .ok (.aload_n 0, 1) := by decide +kernel
theorem dX3_wouldBreakBy_18 : decode cX3_wouldBreakBy 18 = .ok (.getfield 18, 3) := by decide +kernel
theorem dX3_wouldBreakBy_21 : decode cX3_wouldBreakBy 21 = .ok (.if_icmp .lt 7, 3) := by decide +kernel
theorem dX3_wouldBreakBy_24 : decode cX3_wouldBreakBy 24 = .ok (.iconst 1, 1) := by decide +kernel
theorem dX3_wouldBreakBy_25 : decode cX3_wouldBreakBy 25 = .ok (.goto 4, 3) := by decide +kernel
theorem dX3_wouldBreakBy_28 : decode cX3_wouldBreakBy 28 = .ok (.iconst 0, 1) := by decide +kernel
theorem dX3_wouldBreakBy_29 : decode cX3_wouldBreakBy 29 = .ok (.ireturn, 1) := by decide +kernel
theorem dX3_wouldBreakBy_30 : decode cX3_wouldBreakBy 30 = .ok (.aload_n 0, 1) := by decide +kernel
theorem dX3_wouldBreakBy_31 : decode cX3_wouldBreakBy 31 = .ok (.getfield 9, 3) := by decide +kernel
theorem dX3_wouldBreakBy_34 : decode cX3_wouldBreakBy 34 = .ok (.iconst 2, 1) := by decide +kernel
theorem dX3_wouldBreakBy_35 : decode cX3_wouldBreakBy 35 = .ok (.if_icmp .ne 27, 3) := by decide +kernel
theorem dX3_wouldBreakBy_38 : decode cX3_wouldBreakBy 38 = .ok (.aload_n 0, 1) := by decide +kernel
theorem dX3_wouldBreakBy_39 : decode cX3_wouldBreakBy 39 = .ok (.getfield 21, 3) := by decide +kernel
theorem dX3_wouldBreakBy_42 : decode cX3_wouldBreakBy 42 = .ok (.bipush 20, 2) := by decide +kernel
theorem dX3_wouldBreakBy_44 : decode cX3_wouldBreakBy 44 = .ok (.if_icmp .gt 18, 3) := by decide +kernel
theorem dX3_wouldBreakBy_47 : decode cX3_wouldBreakBy 47 = .ok (.aload_n 0, 1) := by decide +kernel
theorem dX3_wouldBreakBy_48 : decode cX3_wouldBreakBy 48 = .ok (.iload_n 1, 1) := by decide +kernel
theorem dX3_wouldBreakBy_49 : decode cX3_wouldBreakBy 49 = .ok (.iload_n 2, 1) := by decide +kernel
theorem dX3_wouldBreakBy_50 : decode cX3_wouldBreakBy 50 = .ok (.invokevirtual 34, 3) := by decide +kernel
theorem dX3_wouldBreakBy_53 : decode cX3_wouldBreakBy 53 = .ok (.bipush 20, 2) := by decide +kernel
theorem dX3_wouldBreakBy_55 : decode cX3_wouldBreakBy 55 = .ok (.if_icmp .le 7, 3) := by decide +kernel
theorem dX3_wouldBreakBy_58 : decode cX3_wouldBreakBy 58 = .ok (.iconst 1, 1) := by decide +kernel
theorem dX3_wouldBreakBy_59 : decode cX3_wouldBreakBy 59 = .ok (.goto 4, 3) := by decide +kernel
theorem dX3_wouldBreakBy_62 : decode cX3_wouldBreakBy 62 = .ok (.iconst 0, 1) := by decide +kernel
theorem dX3_wouldBreakBy_63 : decode cX3_wouldBreakBy 63 = .ok (.ireturn, 1) := by decide +kernel
theorem dX3_isDamageRight_0 : decode cX3_isDamageRight 0 = .ok (.aload_n 0, 1) := by decide +kernel
theorem dX3_isDamageRight_1 : decode cX3_isDamageRight 1 = .ok (.getfield 9, 3) := by decide +kernel
theorem dX3_isDamageRight_4 : decode cX3_isDamageRight 4 = .ok (.iconst 1, 1) := by decide +kernel
theorem dX3_isDamageRight_5 : decode cX3_isDamageRight 5 = .ok (.if_icmp .ne 29, 3) := by decide +kernel
theorem dX3_isDamageRight_8 : decode cX3_isDamageRight 8 = .ok (.aload_n 0, 1) := by decide +kernel
theorem dX3_isDamageRight_9 : decode cX3_isDamageRight 9 = .ok (.getfield 24, 3) := by decide +kernel
theorem dX3_isDamageRight_12 : decode cX3_isDamageRight 12 = .ok (.aload_n 0, 1) := by decide +kernel
theorem dX3_isDamageRight_13 : decode cX3_isDamageRight 13 = .ok (.getfield 21, 3) := by decide +kernel
theorem dX3_isDamageRight_16 : decode cX3_isDamageRight 16 = .ok (.iconst 3, 1) := by decide +kernel
theorem dX3_isDamageRight_17 : decode cX3_isDamageRight 17 = .ok (.if_icmp .ne 7, 3) := by decide +kernel
theorem dX3_isDamageRight_20 : decode cX3_isDamageRight 20 = .ok (.iconst 1, 1) := by decide +kernel
theorem dX3_isDamageRight_21 : decode cX3_isDamageRight 21 = .ok (.goto 4, 3) := by decide +kernel
theorem dX3_isDamageRight_24 : decode cX3_isDamageRight 24 = .ok (.iconst 0, 1) := by decide +kernel
theorem dX3_isDamageRight_25 : decode cX3_isDamageRight 25 = .ok (.if_icmp .ne 7, 3) := by decide +kernel
theorem dX3_isDamageRight_28 : decode cX3_isDamageRight 28 = .ok (.iconst 1, 1) := by decide +kernel
theorem dX3_isDamageRight_29 : decode cX3_isDamageRight 29 = .ok (.goto 4, 3) := by decide +kernel
theorem dX3_isDamageRight_32 : decode cX3_isDamageRight 32 = .ok (.iconst 0, 1) := by decide +kernel
theorem dX3_isDamageRight_33 : decode cX3_isDamageRight 33 = .ok (.ireturn, 1) := by decide +kernel
theorem dX3_isDamageRight_34 : decode cX3_isDamageRight 34 = .ok (.aload_n 0, 1) := by decide +kernel
theorem dX3_isDamageRight_35 : decode cX3_isDamageRight 35 = .ok (.getfield 9, 3) := by decide +kernel
theorem dX3_isDamageRight_38 : decode cX3_isDamageRight 38 = .ok (.iconst 2, 1) := by decide +kernel
theorem dX3_isDamageRight_39 : decode cX3_isDamageRight 39 = .ok (.if_icmp .ne 24, 3) := by decide +kernel
theorem dX3_isDamageRight_42 : decode cX3_isDamageRight 42 = .ok (.aload_n 0, 1) := by decide +kernel
theorem dX3_isDamageRight_43 : decode cX3_isDamageRight 43 = .ok (.getfield 24, 3) := by decide +kernel
theorem dX3_isDamageRight_46 : decode cX3_isDamageRight 46 = .ok (.aload_n 0, 1) := by decide +kernel
theorem dX3_isDamageRight_47 : decode cX3_isDamageRight 47 = .ok (.getfield 21, 3) := by decide +kernel
theorem dX3_isDamageRight_50 : decode cX3_isDamageRight 50 = .ok (.bipush 20, 2) := by decide +kernel
theorem dX3_isDamageRight_52 : decode cX3_isDamageRight 52 = .ok (.if_icmp .le 7, 3) := by decide +kernel
theorem dX3_isDamageRight_55 : decode cX3_isDamageRight 55 = .ok (.iconst 1, 1) := by decide +kernel
theorem dX3_isDamageRight_56 : decode cX3_isDamageRight 56 = .ok (.goto 4, 3) := by decide +kernel
theorem dX3_isDamageRight_59 : decode cX3_isDamageRight 59 = .ok (.iconst 0, 1) := by decide +kernel
theorem dX3_isDamageRight_60 : decode cX3_isDamageRight 60 = .ok (.if_icmp .ne 7, 3) := by decide +kernel
theorem dX3_isDamageRight_63 : decode cX3_isDamageRight 63 = .ok (.iconst 1, 1) := by decide +kernel
theorem dX3_isDamageRight_64 : decode cX3_isDamageRight 64 = .ok (.goto 4, 3) := by decide +kernel
theorem dX3_isDamageRight_67 : decode cX3_isDamageRight 67 = .ok (.iconst 0, 1) := by decide +kernel
theorem dX3_isDamageRight_68 : decode cX3_isDamageRight 68 = .ok (.ireturn, 1) := by decide +kernel
theorem dX3_orderTo_0 : decode cX3_orderTo 0 = .ok (.aload_n 0, 1) := by decide +kernel
theorem dX3_orderTo_1 : decode cX3_orderTo 1 = .ok (.getfield 9, 3) := by decide +kernel
theorem dX3_orderTo_4 : decode cX3_orderTo 4 = .ok (.iconst 1, 1) := by decide +kernel
theorem dX3_orderTo_5 : decode cX3_orderTo 5 = .ok (.if_icmp .ne 35, 3) := by decide +kernel
theorem dX3_orderTo_8 : decode cX3_orderTo 8 = .ok (.aload_n 1, 1) := by decide +kernel
theorem dX3_orderTo_9 : decode cX3_orderTo 9 = .ok (.getfield 18, 3) := by decide +kernel
theorem dX3_orderTo_12 : decode cX3_orderTo 12 = .ok (.aload_n 0, 1) := by decide +kernel
theorem dX3_orderTo_13 : decode cX3_orderTo 13 = .ok (.getfield 18, 3) := by decide +kernel
theorem dX3_orderTo_16 : decode cX3_orderTo 16 = .ok (.invokestatic 44, 3) := by decide +kernel
theorem dX3_orderTo_19 : decode cX3_orderTo 19 = .ok (.istore_n 2, 1) := by decide +kernel
theorem dX3_orderTo_20 : decode cX3_orderTo 20 = .ok (.iload_n 2, 1) := by decide +kernel
theorem dX3_orderTo_21 : decode cX3_orderTo 21 = .ok (.ifCond .eq 7, 3) := by decide +kernel
theorem dX3_orderTo_24 : decode cX3_orderTo 24 = .ok (.iload_n 2, 1) := by decide +kernel
theorem dX3_orderTo_25 : decode cX3_orderTo 25 = .ok (.goto 14, 3) := by decide +kernel
theorem dX3_orderTo_28 : decode cX3_orderTo 28 = .ok (.aload_n 0, 1) := by decide +kernel
theorem dX3_orderTo_29 : decode cX3_orderTo 29 = .ok (.getfield 21, 3) := by decide +kernel
theorem dX3_orderTo_32 : decode cX3_orderTo 32 = .ok (.aload_n 1, 1) := by decide +kernel
theorem dX3_orderTo_33 : decode cX3_orderTo 33 = .ok (.getfield 21, 3) := by decide +kernel
theorem dX3_orderTo_36 : decode cX3_orderTo 36 = .ok (.invokestatic 44, 3) := by decide +kernel
theorem dX3_orderTo_39 : decode cX3_orderTo 39 = .ok (.ireturn, 1) := by decide +kernel
theorem dX3_orderTo_40 : decode cX3_orderTo 40 = .ok (.aload_n 0, 1) := by decide +kernel
theorem dX3_orderTo_41 : decode cX3_orderTo 41 = .ok (.getfield 9, 3) := by decide +kernel
theorem dX3_orderTo_44 : decode cX3_orderTo 44 = .ok (.iconst 2, 1) := by decide +kernel
theorem dX3_orderTo_45 : decode cX3_orderTo 45 = .ok (.if_icmp .ne 35, 3) := by decide +kernel
theorem dX3_orderTo_48 : decode cX3_orderTo 48 = .ok (.aload_n 1, 1) := by decide +kernel
theorem dX3_orderTo_49 : decode cX3_orderTo 49 = .ok (.getfield 21, 3) := by decide +kernel
theorem dX3_orderTo_52 : decode cX3_orderTo 52 = .ok (.aload_n 0, 1) := by decide +kernel
theorem dX3_orderTo_53 : decode cX3_orderTo 53 = .ok (.getfield 21, 3) := by decide +kernel
theorem dX3_orderTo_56 : decode cX3_orderTo 56 = .ok (.invokestatic 44, 3) := by decide +kernel
theorem dX3_orderTo_59 : decode cX3_orderTo 59 = .ok (.istore_n 2, 1) := by decide +kernel
theorem dX3_orderTo_60 : decode cX3_orderTo 60 = .ok (.iload_n 2, 1) := by decide +kernel
theorem dX3_orderTo_61 : decode cX3_orderTo 61 = .ok (.ifCond .eq 7, 3) := by decide +kernel
theorem dX3_orderTo_64 : decode cX3_orderTo 64 = .ok (.iload_n 2, 1) := by decide +kernel
theorem dX3_orderTo_65 : decode cX3_orderTo 65 = .ok (.goto 14, 3) := by decide +kernel
theorem dX3_orderTo_68 : decode cX3_orderTo 68 = .ok (.aload_n 1, 1) := by decide +kernel
theorem dX3_orderTo_69 : decode cX3_orderTo 69 = .ok (.getfield 18, 3) := by decide +kernel
theorem dX3_orderTo_72 : decode cX3_orderTo 72 = .ok (.aload_n 0, 1) := by decide +kernel
theorem dX3_orderTo_73 : decode cX3_orderTo 73 = .ok (.getfield 18, 3) := by decide +kernel
theorem dX3_orderTo_76 : decode cX3_orderTo 76 = .ok (.invokestatic 44, 3) := by decide +kernel
theorem dX3_orderTo_79 : decode cX3_orderTo 79 = .ok (.ireturn, 1) := by decide +kernel
theorem dX3_orderTo_80 : decode cX3_orderTo 80 = .ok (.aload_n 1, 1) := by decide +kernel
theorem dX3_orderTo_81 : decode cX3_orderTo 81 = .ok (.getfield 31, 3) := by decide +kernel
theorem dX3_orderTo_84 : decode cX3_orderTo 84 = .ok (.aload_n 0, 1) := by decide +kernel
theorem dX3_orderTo_85 : decode cX3_orderTo 85 = .ok (.getfield 31, 3) := by decide +kernel
theorem dX3_orderTo_88 : decode cX3_orderTo 88 = .ok (.invokestatic 44, 3) := by decide +kernel
theorem dX3_orderTo_91 : decode cX3_orderTo 91 = .ok (.ireturn, 1) := by decide +kernel
end
section
-- J6.compare_7cf53
def fJ6_compare_7cf53 (w : qMem)  (a1 : Int32) (a2 : Int32) : Option (Int32) :=
  if a2 ≤ a1 then
    if a1 = a2 then
      some (0)
    else
      some (1)
  else
    some ((-1))
theorem qhd_J6_compare_7cf53 : yJ6_compare_7cf53.cls ≠ "java/lang/invoke/MethodHandle" ∧ yJ6_compare_7cf53.cls ≠ "java/lang/invoke/VarHandle" ∧ (parseMethodDescriptor yJ6_compare_7cf53.desc).map (fun d => d.parameters.length) = some 2 := ⟨by decide +kernel, by decide +kernel, by decide +kernel⟩
set_option maxHeartbeats 4000000 in
set_option maxRecDepth 100000 in
theorem mJ6_compare_7cf53 {l : Launch} {D : va_G} {G : Nat → ClassId} {ad : Nat → Nat} (hJ : qInj ad) {w : qMem}   {a1 : Int32} {a2 : Int32} {rF : Int32} (hf : fJ6_compare_7cf53 w a1 a2 = some rF) : qCMi l D G ad yJ6_compare_7cf53 cJ6_compare_7cf53 2 (some .int) 1 0 0 [.int a1, .int a2] w rF w := by
  refine q_start RJ6 rfl (by decide +kernel) hJ (fun a b h => by simp only [qQI, qQV, qQR, h]) (Nat.le_of_ble_eq_true rfl) ?_
  intro p e s m args below meth c0 ls hC hr hR hl
  have hx := hC.1
  have hb := hC.2.1
  have hl : lv_has ls 2 [(0, .int a1), (1, .int a2)] := hl
  unfold fJ6_compare_7cf53 at hf
  refine lv_iload_n hx hb dJ6_compare_7cf53_0 rfl (lv_at hl 0 rfl) ?_
  refine lv_iload_n hx hb dJ6_compare_7cf53_1 rfl (lv_at hl 1 rfl) ?_
  refine lv_icmp_ge (tgt := 9) hx hb dJ6_compare_7cf53_2 (by decide) (fun c_1 => ?_) (fun c_1 => ?_)
  · have hf := qif_t hf c_1
    refine lv_iload_n hx hb dJ6_compare_7cf53_9 rfl (lv_at hl 0 rfl) ?_
    refine lv_iload_n hx hb dJ6_compare_7cf53_10 rfl (lv_at hl 1 rfl) ?_
    refine lv_icmp_ne (tgt := 18) hx hb dJ6_compare_7cf53_11 (by decide) (fun c_2 => ?_) (fun c_2 => ?_)
    · have hf := qif_f hf c_2
      refine lv_iconst (v := 1) hx hb dJ6_compare_7cf53_18 (by decide) ?_
      exact q_iret hC hR hr rfl (qso hf) rfl dJ6_compare_7cf53_19
    · have hf := qif_t hf c_2
      refine lv_iconst (v := 0) hx hb dJ6_compare_7cf53_14 (by decide) ?_
      refine lv_goto (tgt := 19) hx hb dJ6_compare_7cf53_15 (by decide) ?_
      exact q_iret hC hR hr rfl (qso hf) rfl dJ6_compare_7cf53_19
  · have hf := qif_f hf c_1
    refine lv_iconst (v := (-1)) hx hb dJ6_compare_7cf53_5 (by decide) ?_
    refine lv_goto (tgt := 19) hx hb dJ6_compare_7cf53_6 (by decide) ?_
    exact q_iret hC hR hr rfl (qso hf) rfl dJ6_compare_7cf53_19
end
section
-- X3.begin
def fX3_begin (w : qMem) (c : Nat) (a1 : Int32) (a2 : Int32) (a3 : Int32) : Option (qMem) :=
  qnm (quw w c 0 a1) fun (w1 : qMem) =>
  qnm (quw w1 c 1 a2) fun (w2 : qMem) =>
  qnm (quw w2 c 2 a3) fun (w3 : qMem) =>
  qnm (quw w3 c 3 0) fun (w4 : qMem) =>
  qnm (quw w4 c 4 0) fun (w5 : qMem) =>
  qnm (quw w5 c 5 0) fun (w6 : qMem) =>
  qnm (quw w6 c 6 0) fun (w7 : qMem) =>
  some w7
theorem qhd_X3_begin : yX3_begin.cls ≠ "java/lang/invoke/MethodHandle" ∧ yX3_begin.cls ≠ "java/lang/invoke/VarHandle" ∧ (parseMethodDescriptor yX3_begin.desc).map (fun d => d.parameters.length) = some 3 := ⟨by decide +kernel, by decide +kernel, by decide +kernel⟩
set_option maxHeartbeats 4000000 in
set_option maxRecDepth 100000 in
theorem mX3_begin {l : Launch} {D : va_G} {G : Nat → ClassId} {ad : Nat → Nat} (hJ : qInj ad) {w : qMem} {c : Nat} (hc : qisP c) {a1 : Int32} {a2 : Int32} {a3 : Int32} {wF : qMem} (hf : fX3_begin w c a1 a2 a3 = some wF) : qCMv l D G ad yX3_begin cX3_begin 4 (none) 1 0 0 [.ref (ad (c)), .int a1, .int a2, .int a3] w wF := by
  refine q_start RX3 rfl (by decide +kernel) hJ (fun a b h => by simp only [qQI, qQV, qQR, h]) (Nat.le_of_ble_eq_true rfl) ?_
  intro p e s m args below meth c0 ls hC hr hR hl
  have hx := hC.1
  have hb := hC.2.1
  have hl : lv_has ls 4 [(0, .ref (ad (c))), (1, .int a1), (2, .int a2), (3, .int a3)] := hl
  unfold fX3_begin at hf
  refine lv_aload_n hx hb dX3_begin_0 rfl (lv_at hl 0 rfl) ?_
  refine lv_iload_n hx hb dX3_begin_1 rfl (lv_at hl 1 rfl) ?_
  refine qput_X3_0 hC hR hc qk_109 ⟨rfl, rfl⟩ dX3_begin_2 (fun w1 H locs ew1 hR => ?_)
  have hf := qnm_t hf ew1
  refine lv_aload_n hx hb dX3_begin_5 rfl (lv_at hl 0 rfl) ?_
  refine lv_iload_n hx hb dX3_begin_6 rfl (lv_at hl 2 rfl) ?_
  refine qput_X3_1 hC hR hc qk_113 ⟨rfl, rfl⟩ dX3_begin_7 (fun w2 H locs ew2 hR => ?_)
  have hf := qnm_t hf ew2
  refine lv_aload_n hx hb dX3_begin_10 rfl (lv_at hl 0 rfl) ?_
  refine lv_iload_n hx hb dX3_begin_11 rfl (lv_at hl 3 rfl) ?_
  refine qput_X3_2 hC hR hc qk_117 ⟨rfl, rfl⟩ dX3_begin_12 (fun w3 H locs ew3 hR => ?_)
  have hf := qnm_t hf ew3
  refine lv_aload_n hx hb dX3_begin_15 rfl (lv_at hl 0 rfl) ?_
  refine lv_iconst (v := 0) hx hb dX3_begin_16 (by decide) ?_
  refine qput_X3_3 hC hR hc qk_121 ⟨rfl, rfl⟩ dX3_begin_17 (fun w4 H locs ew4 hR => ?_)
  have hf := qnm_t hf ew4
  refine lv_aload_n hx hb dX3_begin_20 rfl (lv_at hl 0 rfl) ?_
  refine lv_iconst (v := 0) hx hb dX3_begin_21 (by decide) ?_
  refine qput_X3_4 hC hR hc qk_125 ⟨by decide, by decide⟩ dX3_begin_22 (fun w5 H locs ew5 hR => ?_)
  have hf := qnm_t hf ew5
  refine lv_aload_n hx hb dX3_begin_25 rfl (lv_at hl 0 rfl) ?_
  refine lv_iconst (v := 0) hx hb dX3_begin_26 (by decide) ?_
  refine qput_X3_5 hC hR hc qk_129 ⟨rfl, rfl⟩ dX3_begin_27 (fun w6 H locs ew6 hR => ?_)
  have hf := qnm_t hf ew6
  refine lv_aload_n hx hb dX3_begin_30 rfl (lv_at hl 0 rfl) ?_
  refine lv_iconst (v := 0) hx hb dX3_begin_31 (by decide) ?_
  refine qput_X3_6 hC hR hc qk_132 ⟨rfl, rfl⟩ dX3_begin_32 (fun w7 H locs ew7 hR => ?_)
  have hf := qnm_t hf ew7
  exact q_vret hC hR hr (qso hf) dX3_begin_35
-- X3.copyFrom
def fX3_copyFrom (w : qMem) (c : Nat) (c1 : Nat)  : Option (qMem) :=
  qnm (quw w c 0 (w c1 0)) fun (w1 : qMem) =>
  qnm (quw w1 c 1 (w1 c1 1)) fun (w2 : qMem) =>
  qnm (quw w2 c 2 (w2 c1 2)) fun (w3 : qMem) =>
  qnm (quw w3 c 3 (w3 c1 3)) fun (w4 : qMem) =>
  if qisB (w4 c1 4) = true then
  qnm (quw w4 c 4 (w4 c1 4)) fun (w6 : qMem) =>
  qnm (quw w6 c 5 (w6 c1 5)) fun (w7 : qMem) =>
  qnm (quw w7 c 6 (w7 c1 6)) fun (w8 : qMem) =>
  some w8
  else none
theorem qhd_X3_copyFrom : yX3_copyFrom.cls ≠ "java/lang/invoke/MethodHandle" ∧ yX3_copyFrom.cls ≠ "java/lang/invoke/VarHandle" ∧ (parseMethodDescriptor yX3_copyFrom.desc).map (fun d => d.parameters.length) = some 1 := ⟨by decide +kernel, by decide +kernel, by decide +kernel⟩
set_option maxHeartbeats 4000000 in
set_option maxRecDepth 100000 in
theorem mX3_copyFrom {l : Launch} {D : va_G} {G : Nat → ClassId} {ad : Nat → Nat} (hJ : qInj ad) {w : qMem} {c : Nat} {c1 : Nat} (hc : qisP c) (hc1 : qisP c1)  {wF : qMem} (hf : fX3_copyFrom w c c1 = some wF) : qCMv l D G ad yX3_copyFrom cX3_copyFrom 2 (none) 1 0 0 [.ref (ad (c)), .ref (ad (c1))] w wF := by
  refine q_start RX3 rfl (by decide +kernel) hJ (fun a b h => by simp only [qQI, qQV, qQR, h]) (Nat.le_of_ble_eq_true rfl) ?_
  intro p e s m args below meth c0 ls hC hr hR hl
  have hx := hC.1
  have hb := hC.2.1
  have hl : lv_has ls 2 [(0, .ref (ad (c))), (1, .ref (ad (c1)))] := hl
  unfold fX3_copyFrom at hf
  refine lv_aload_n hx hb dX3_copyFrom_0 rfl (lv_at hl 0 rfl) ?_
  refine lv_aload_n hx hb dX3_copyFrom_1 rfl (lv_at hl 1 rfl) ?_
  refine qget_X3_0 hC hR hc1 qk_109 dX3_copyFrom_2 ?_
  refine qput_X3_0 hC hR hc qk_109 ⟨rfl, rfl⟩ dX3_copyFrom_5 (fun w1 H locs ew1 hR => ?_)
  have hf := qnm_t hf ew1
  refine lv_aload_n hx hb dX3_copyFrom_8 rfl (lv_at hl 0 rfl) ?_
  refine lv_aload_n hx hb dX3_copyFrom_9 rfl (lv_at hl 1 rfl) ?_
  refine qget_X3_1 hC hR hc1 qk_113 dX3_copyFrom_10 ?_
  refine qput_X3_1 hC hR hc qk_113 ⟨rfl, rfl⟩ dX3_copyFrom_13 (fun w2 H locs ew2 hR => ?_)
  have hf := qnm_t hf ew2
  refine lv_aload_n hx hb dX3_copyFrom_16 rfl (lv_at hl 0 rfl) ?_
  refine lv_aload_n hx hb dX3_copyFrom_17 rfl (lv_at hl 1 rfl) ?_
  refine qget_X3_2 hC hR hc1 qk_117 dX3_copyFrom_18 ?_
  refine qput_X3_2 hC hR hc qk_117 ⟨rfl, rfl⟩ dX3_copyFrom_21 (fun w3 H locs ew3 hR => ?_)
  have hf := qnm_t hf ew3
  refine lv_aload_n hx hb dX3_copyFrom_24 rfl (lv_at hl 0 rfl) ?_
  refine lv_aload_n hx hb dX3_copyFrom_25 rfl (lv_at hl 1 rfl) ?_
  refine qget_X3_3 hC hR hc1 qk_121 dX3_copyFrom_26 ?_
  refine qput_X3_3 hC hR hc qk_121 ⟨rfl, rfl⟩ dX3_copyFrom_29 (fun w4 H locs ew4 hR => ?_)
  have hf := qnm_t hf ew4
  refine lv_aload_n hx hb dX3_copyFrom_32 rfl (lv_at hl 0 rfl) ?_
  refine lv_aload_n hx hb dX3_copyFrom_33 rfl (lv_at hl 1 rfl) ?_
  refine qget_X3_4 hC hR hc1 qk_125 dX3_copyFrom_34 ?_
  obtain ⟨g5, hf⟩ := qgd hf
  refine qput_X3_4 hC hR hc qk_125 (qisB_ok g5) dX3_copyFrom_37 (fun w6 H locs ew6 hR => ?_)
  have hf := qnm_t hf ew6
  refine lv_aload_n hx hb dX3_copyFrom_40 rfl (lv_at hl 0 rfl) ?_
  refine lv_aload_n hx hb dX3_copyFrom_41 rfl (lv_at hl 1 rfl) ?_
  refine qget_X3_5 hC hR hc1 qk_129 dX3_copyFrom_42 ?_
  refine qput_X3_5 hC hR hc qk_129 ⟨rfl, rfl⟩ dX3_copyFrom_45 (fun w7 H locs ew7 hR => ?_)
  have hf := qnm_t hf ew7
  refine lv_aload_n hx hb dX3_copyFrom_48 rfl (lv_at hl 0 rfl) ?_
  refine lv_aload_n hx hb dX3_copyFrom_49 rfl (lv_at hl 1 rfl) ?_
  refine qget_X3_6 hC hR hc1 qk_132 dX3_copyFrom_50 ?_
  refine qput_X3_6 hC hR hc qk_132 ⟨rfl, rfl⟩ dX3_copyFrom_53 (fun w8 H locs ew8 hR => ?_)
  have hf := qnm_t hf ew8
  exact q_vret hC hR hr (qso hf) dX3_copyFrom_56
-- X3.shakeCup
def fX3_shakeCup_L46 (c : Nat)  (w : qMem) (s0 : Int32) : Option (Int32 × qMem) :=
  qnm (quw w c 2 s0) fun (w9 : qMem) =>
  if w9 c 3 < 3 then
    qnm (quw w9 c 4 0) fun (w11 : qMem) =>
    if qisB (w11 c 4) = true then
    some (w11 c 4, w11)
    else none
  else
    qnm (quw w9 c 4 1) fun (w13 : qMem) =>
    if qisB (w13 c 4) = true then
    some (w13 c 4, w13)
    else none
set_option maxHeartbeats 4000000 in
set_option maxRecDepth 100000 in
theorem mX3_shakeCup_L46 {p : Program} {l : Launch} {e : Env} {s : State} {m : MethodId} {args : Array Value} {below : List Frame} {meth : Method} {c0 : Code} {D : va_G} {G : Nat → ClassId} {ad : Nat → Nat} {c : Nat} (hc : qisP c) {rF : Int32} {wF : qMem}  (hC : qCx p c0 cX3_shakeCup 2 s m args meth RX3 D G ad) (hr : meth.sig.returnType = some .boolean)  : ∀ (w : qMem) (s0 : Int32) (H : Heap) (locs : List Loc) (ls : Array Slot), fX3_shakeCup_L46 c w s0 = some (rF, wF) → qRp D G ad s w H locs → lv_has ls 2 [(0, .ref (ad (c)))] → W p l e (qrm 1 0 0) s m args below meth c0 H locs 0 0 (MQ below (qQI D G ad s wF rF) args s 0 0 (qAdr ad s.heap.size)) (F0 m 46 ls [.int s0, .ref (ad (c))]) := by
  have hx := hC.1
  have hb := hC.2.1
  intro w s0 H locs ls hf hR hl
  unfold fX3_shakeCup_L46 at hf
  refine qput_X3_2 hC hR hc qk_117 ⟨rfl, rfl⟩ dX3_shakeCup_46 (fun w9 H locs ew9 hR => ?_)
  have hf := qnm_t hf ew9
  refine lv_aload_n hx hb dX3_shakeCup_49 rfl (lv_at hl 0 rfl) ?_
  refine lv_aload_n hx hb dX3_shakeCup_50 rfl (lv_at hl 0 rfl) ?_
  refine qget_X3_3 hC hR hc qk_121 dX3_shakeCup_51 ?_
  refine lv_iconst (v := 3) hx hb dX3_shakeCup_54 (by decide) ?_
  refine lv_icmp_lt (tgt := 62) hx hb dX3_shakeCup_55 (by decide) (fun c_10 => ?_) (fun c_10 => ?_)
  · have hf := qif_t hf c_10
    refine lv_iconst (v := 0) hx hb dX3_shakeCup_62 (by decide) ?_
    refine qput_X3_4 hC hR hc qk_125 ⟨by decide, by decide⟩ dX3_shakeCup_63 (fun w11 H locs ew11 hR => ?_)
    have hf := qnm_t hf ew11
    refine lv_goto (tgt := 89) hx hb dX3_shakeCup_66 (by decide) ?_
    refine lv_aload_n hx hb dX3_shakeCup_89 rfl (lv_at hl 0 rfl) ?_
    refine qget_X3_4 hC hR hc qk_125 dX3_shakeCup_90 ?_
    obtain ⟨g12, hf⟩ := qgd hf
    exact q_iret hC hR hr (qisB_ok g12).1 (qso2 hf).1 (qso2 hf).2 dX3_shakeCup_93
  · have hf := qif_f hf c_10
    refine lv_iconst (v := 1) hx hb dX3_shakeCup_58 (by decide) ?_
    refine lv_goto (tgt := 63) hx hb dX3_shakeCup_59 (by decide) ?_
    refine qput_X3_4 hC hR hc qk_125 ⟨by decide, by decide⟩ dX3_shakeCup_63 (fun w13 H locs ew13 hR => ?_)
    have hf := qnm_t hf ew13
    refine lv_goto (tgt := 89) hx hb dX3_shakeCup_66 (by decide) ?_
    refine lv_aload_n hx hb dX3_shakeCup_89 rfl (lv_at hl 0 rfl) ?_
    refine qget_X3_4 hC hR hc qk_125 dX3_shakeCup_90 ?_
    obtain ⟨g14, hf⟩ := qgd hf
    exact q_iret hC hR hr (qisB_ok g14).1 (qso2 hf).1 (qso2 hf).2 dX3_shakeCup_93
def fX3_shakeCup (w : qMem) (c : Nat) (a1 : Int32) : Option (Int32 × qMem) :=
  if w c 4 = 0 then
    if a1 < w c 2 then
      if 2 * a1 < w c 2 then
        if qisB (w c 4) = true then
        some (w c 4, w)
        else none
      else
        qnm (quw w c 6 ((w c 6) + 1)) fun (w5 : qMem) =>
        if qisB (w5 c 4) = true then
        some (w5 c 4, w5)
        else none
    else
      qnm (quw w c 3 ((w c 3) + 1)) fun (w7 : qMem) =>
      if w7 c 2 ≤ 1 then
        fX3_shakeCup_L46 c w7 1
      else
        fX3_shakeCup_L46 c w7 ((w7 c 2) - 1)
  else
    some (0, w)
theorem qhd_X3_shakeCup : yX3_shakeCup.cls ≠ "java/lang/invoke/MethodHandle" ∧ yX3_shakeCup.cls ≠ "java/lang/invoke/VarHandle" ∧ (parseMethodDescriptor yX3_shakeCup.desc).map (fun d => d.parameters.length) = some 1 := ⟨by decide +kernel, by decide +kernel, by decide +kernel⟩
set_option maxHeartbeats 4000000 in
set_option maxRecDepth 100000 in
theorem mX3_shakeCup {l : Launch} {D : va_G} {G : Nat → ClassId} {ad : Nat → Nat} (hJ : qInj ad) {w : qMem} {c : Nat} (hc : qisP c) {a1 : Int32} {rF : Int32} {wF : qMem} (hf : fX3_shakeCup w c a1 = some (rF, wF)) : qCMi l D G ad yX3_shakeCup cX3_shakeCup 2 (some .boolean) 1 0 0 [.ref (ad (c)), .int a1] w rF wF := by
  refine q_start RX3 rfl (by decide +kernel) hJ (fun a b h => by simp only [qQI, qQV, qQR, h]) (Nat.le_of_ble_eq_true rfl) ?_
  intro p e s m args below meth c0 ls hC hr hR hl
  have hx := hC.1
  have hb := hC.2.1
  have hl : lv_has ls 2 [(0, .ref (ad (c))), (1, .int a1)] := hl
  unfold fX3_shakeCup at hf
  refine lv_aload_n hx hb dX3_shakeCup_0 rfl (lv_at hl 0 rfl) ?_
  refine qget_X3_4 hC hR hc qk_125 dX3_shakeCup_1 ?_
  refine lv_if_eq (tgt := 9) hx hb dX3_shakeCup_4 (by decide) (fun c_1 => ?_) (fun c_1 => ?_)
  · have hf := qif_t hf c_1
    refine lv_iload_n hx hb dX3_shakeCup_9 rfl (lv_at hl 1 rfl) ?_
    refine lv_aload_n hx hb dX3_shakeCup_10 rfl (lv_at hl 0 rfl) ?_
    refine qget_X3_2 hC hR hc qk_117 dX3_shakeCup_11 ?_
    refine lv_icmp_lt (tgt := 69) hx hb dX3_shakeCup_14 (by decide) (fun c_2 => ?_) (fun c_2 => ?_)
    · have hf := qif_t hf c_2
      refine lv_iconst (v := 2) hx hb dX3_shakeCup_69 (by decide) ?_
      refine lv_iload_n hx hb dX3_shakeCup_70 rfl (lv_at hl 1 rfl) ?_
      refine lv_imul hx hb dX3_shakeCup_71 ?_
      refine lv_aload_n hx hb dX3_shakeCup_72 rfl (lv_at hl 0 rfl) ?_
      refine qget_X3_2 hC hR hc qk_117 dX3_shakeCup_73 ?_
      refine lv_icmp_lt (tgt := 89) hx hb dX3_shakeCup_76 (by decide) (fun c_3 => ?_) (fun c_3 => ?_)
      · have hf := qif_t hf c_3
        refine lv_aload_n hx hb dX3_shakeCup_89 rfl (lv_at hl 0 rfl) ?_
        refine qget_X3_4 hC hR hc qk_125 dX3_shakeCup_90 ?_
        obtain ⟨g4, hf⟩ := qgd hf
        exact q_iret hC hR hr (qisB_ok g4).1 (qso2 hf).1 (qso2 hf).2 dX3_shakeCup_93
      · have hf := qif_f hf c_3
        refine lv_aload_n hx hb dX3_shakeCup_79 rfl (lv_at hl 0 rfl) ?_
        refine lv_dup hx hb dX3_shakeCup_80 rfl ?_
        refine qget_X3_6 hC hR hc qk_132 dX3_shakeCup_81 ?_
        refine lv_iconst (v := 1) hx hb dX3_shakeCup_84 (by decide) ?_
        refine lv_iadd hx hb dX3_shakeCup_85 ?_
        refine qput_X3_6 hC hR hc qk_132 ⟨rfl, rfl⟩ dX3_shakeCup_86 (fun w5 H locs ew5 hR => ?_)
        have hf := qnm_t hf ew5
        refine lv_aload_n hx hb dX3_shakeCup_89 rfl (lv_at hl 0 rfl) ?_
        refine qget_X3_4 hC hR hc qk_125 dX3_shakeCup_90 ?_
        obtain ⟨g6, hf⟩ := qgd hf
        exact q_iret hC hR hr (qisB_ok g6).1 (qso2 hf).1 (qso2 hf).2 dX3_shakeCup_93
    · have hf := qif_f hf c_2
      refine lv_aload_n hx hb dX3_shakeCup_17 rfl (lv_at hl 0 rfl) ?_
      refine lv_dup hx hb dX3_shakeCup_18 rfl ?_
      refine qget_X3_3 hC hR hc qk_121 dX3_shakeCup_19 ?_
      refine lv_iconst (v := 1) hx hb dX3_shakeCup_22 (by decide) ?_
      refine lv_iadd hx hb dX3_shakeCup_23 ?_
      refine qput_X3_3 hC hR hc qk_121 ⟨rfl, rfl⟩ dX3_shakeCup_24 (fun w7 H locs ew7 hR => ?_)
      have hf := qnm_t hf ew7
      refine lv_aload_n hx hb dX3_shakeCup_27 rfl (lv_at hl 0 rfl) ?_
      refine lv_aload_n hx hb dX3_shakeCup_28 rfl (lv_at hl 0 rfl) ?_
      refine qget_X3_2 hC hR hc qk_117 dX3_shakeCup_29 ?_
      refine lv_iconst (v := 1) hx hb dX3_shakeCup_32 (by decide) ?_
      refine lv_icmp_le (tgt := 45) hx hb dX3_shakeCup_33 (by decide) (fun c_8 => ?_) (fun c_8 => ?_)
      · have hf := qif_t hf c_8
        refine lv_iconst (v := 1) hx hb dX3_shakeCup_45 (by decide) ?_
        exact mX3_shakeCup_L46 hc hC hr _ _ _ _ _ hf hR (lv_sub hl [0] rfl)
      · have hf := qif_f hf c_8
        refine lv_aload_n hx hb dX3_shakeCup_36 rfl (lv_at hl 0 rfl) ?_
        refine qget_X3_2 hC hR hc qk_117 dX3_shakeCup_37 ?_
        refine lv_iconst (v := 1) hx hb dX3_shakeCup_40 (by decide) ?_
        refine lv_isub hx hb dX3_shakeCup_41 ?_
        refine lv_goto (tgt := 46) hx hb dX3_shakeCup_42 (by decide) ?_
        exact mX3_shakeCup_L46 hc hC hr _ _ _ _ _ hf hR (lv_sub hl [0] rfl)
  · have hf := qif_f hf c_1
    refine lv_iconst (v := 0) hx hb dX3_shakeCup_7 (by decide) ?_
    exact q_iret hC hR hr (by decide) (qso2 hf).1 (qso2 hf).2 dX3_shakeCup_8
-- X3.swingAfter
def fX3_swingAfter_L17 (w : qMem) (c : Nat)  (x1 : Int32) (x2 : Int32) (s0 : Int32) : Option (Int32) :=
  if x1 ≤ 0 then
    if w c 5 = x2 then
      some (s0 / 2)
    else
      some (s0)
  else
    if x1 = 0 then none else
    qnm (((w c 3) + x1) + ((w c 2) - (w c 2) / x1 * x1)) fun (x5 : Int32) =>
    if w c 5 = x2 then
      some (x5 / 2)
    else
      some (x5)
set_option maxHeartbeats 4000000 in
set_option maxRecDepth 100000 in
theorem mX3_swingAfter_L17 {p : Program} {l : Launch} {e : Env} {s : State} {m : MethodId} {args : Array Value} {below : List Frame} {meth : Method} {c0 : Code} {D : va_G} {G : Nat → ClassId} {ad : Nat → Nat} {w : qMem} {c : Nat} (hc : qisP c) {rF : Int32}  (hC : qCx p c0 cX3_swingAfter 4 s m args meth RX3 D G ad) (hr : meth.sig.returnType = some .int)  : ∀ (x1 : Int32) (x2 : Int32) (s0 : Int32) (H : Heap) (locs : List Loc) (ls : Array Slot), fX3_swingAfter_L17 w c x1 x2 s0 = some rF → qRp D G ad s w H locs → lv_has ls 4 [(0, .ref (ad (c))), (1, .int x1), (2, .int x2)] → W p l e (qrm 1 0 0) s m args below meth c0 H locs 0 0 (MQ below (qQI D G ad s w rF) args s 0 0 (qAdr ad s.heap.size)) (F0 m 17 ls [.int s0]) := by
  have hx := hC.1
  have hb := hC.2.1
  intro x1 x2 s0 H locs ls hf hR hl
  unfold fX3_swingAfter_L17 at hf
  refine lv_istore_n (lv' := [(3, .int s0), (0, .ref (ad (c))), (1, .int x1), (2, .int x2)]) hx hb dX3_swingAfter_17 rfl hl (by decide) rfl (fun ls hl => ?_)
  refine lv_iload_n hx hb dX3_swingAfter_18 rfl (lv_at hl 2 rfl) ?_
  refine lv_if_le (tgt := 36) hx hb dX3_swingAfter_19 (by decide) (fun c_2 => ?_) (fun c_2 => ?_)
  · have hf := qif_t hf c_2
    refine lv_aload_n hx hb dX3_swingAfter_36 rfl (lv_at hl 1 rfl) ?_
    refine qget_X3_5 hC hR hc qk_129 dX3_swingAfter_37 ?_
    refine lv_iload_n hx hb dX3_swingAfter_40 rfl (lv_at hl 3 rfl) ?_
    refine lv_icmp_ne (tgt := 50) hx hb dX3_swingAfter_41 (by decide) (fun c_3 => ?_) (fun c_3 => ?_)
    · have hf := qif_f hf c_3
      refine lv_iload_n hx hb dX3_swingAfter_50 rfl (lv_at hl 0 rfl) ?_
      exact q_iret hC hR hr rfl (qso hf) rfl dX3_swingAfter_51
    · have hf := qif_t hf c_3
      refine lv_iload_n hx hb dX3_swingAfter_44 rfl (lv_at hl 0 rfl) ?_
      refine lv_iconst (v := 2) hx hb dX3_swingAfter_45 (by decide) ?_
      refine lv_idiv hx hb dX3_swingAfter_46 (by decide) ?_
      refine lv_goto (tgt := 51) hx hb dX3_swingAfter_47 (by decide) ?_
      exact q_iret hC hR hr rfl (qso hf) rfl dX3_swingAfter_51
  · have hf := qif_f hf c_2
    refine lv_aload_n hx hb dX3_swingAfter_22 rfl (lv_at hl 1 rfl) ?_
    refine qget_X3_3 hC hR hc qk_121 dX3_swingAfter_23 ?_
    refine lv_iload_n hx hb dX3_swingAfter_26 rfl (lv_at hl 2 rfl) ?_
    refine lv_iadd hx hb dX3_swingAfter_27 ?_
    refine lv_aload_n hx hb dX3_swingAfter_28 rfl (lv_at hl 1 rfl) ?_
    refine qget_X3_2 hC hR hc qk_117 dX3_swingAfter_29 ?_
    refine lv_iload_n hx hb dX3_swingAfter_32 rfl (lv_at hl 2 rfl) ?_
    obtain ⟨g4, hf⟩ := qgdn hf
    refine lv_irem hx hb dX3_swingAfter_33 g4 ?_
    refine lv_iadd hx hb dX3_swingAfter_34 ?_
    refine lv_topi (fun x5 ex5 => ?_)
    have hf := qnm_t hf ex5
    refine lv_istore_n (lv' := [(3, .int x5), (0, .ref (ad (c))), (1, .int x1), (2, .int x2)]) hx hb dX3_swingAfter_35 rfl hl (by decide) rfl (fun ls hl => ?_)
    refine lv_aload_n hx hb dX3_swingAfter_36 rfl (lv_at hl 1 rfl) ?_
    refine qget_X3_5 hC hR hc qk_129 dX3_swingAfter_37 ?_
    refine lv_iload_n hx hb dX3_swingAfter_40 rfl (lv_at hl 3 rfl) ?_
    refine lv_icmp_ne (tgt := 50) hx hb dX3_swingAfter_41 (by decide) (fun c_6 => ?_) (fun c_6 => ?_)
    · have hf := qif_f hf c_6
      refine lv_iload_n hx hb dX3_swingAfter_50 rfl (lv_at hl 0 rfl) ?_
      exact q_iret hC hR hr rfl (qso hf) rfl dX3_swingAfter_51
    · have hf := qif_t hf c_6
      refine lv_iload_n hx hb dX3_swingAfter_44 rfl (lv_at hl 0 rfl) ?_
      refine lv_iconst (v := 2) hx hb dX3_swingAfter_45 (by decide) ?_
      refine lv_idiv hx hb dX3_swingAfter_46 (by decide) ?_
      refine lv_goto (tgt := 51) hx hb dX3_swingAfter_47 (by decide) ?_
      exact q_iret hC hR hr rfl (qso hf) rfl dX3_swingAfter_51
def fX3_swingAfter (w : qMem) (c : Nat) (a1 : Int32) (a2 : Int32) : Option (Int32) :=
  if w c 3 ≤ 0 then
    fX3_swingAfter_L17 w c a1 a2 0
  else
    fX3_swingAfter_L17 w c a1 a2 ((w c 3) - 1)
theorem qhd_X3_swingAfter : yX3_swingAfter.cls ≠ "java/lang/invoke/MethodHandle" ∧ yX3_swingAfter.cls ≠ "java/lang/invoke/VarHandle" ∧ (parseMethodDescriptor yX3_swingAfter.desc).map (fun d => d.parameters.length) = some 2 := ⟨by decide +kernel, by decide +kernel, by decide +kernel⟩
set_option maxHeartbeats 4000000 in
set_option maxRecDepth 100000 in
theorem mX3_swingAfter {l : Launch} {D : va_G} {G : Nat → ClassId} {ad : Nat → Nat} (hJ : qInj ad) {w : qMem} {c : Nat} (hc : qisP c) {a1 : Int32} {a2 : Int32} {rF : Int32} (hf : fX3_swingAfter w c a1 a2 = some rF) : qCMi l D G ad yX3_swingAfter cX3_swingAfter 4 (some .int) 1 0 0 [.ref (ad (c)), .int a1, .int a2] w rF w := by
  refine q_start RX3 rfl (by decide +kernel) hJ (fun a b h => by simp only [qQI, qQV, qQR, h]) (Nat.le_of_ble_eq_true rfl) ?_
  intro p e s m args below meth c0 ls hC hr hR hl
  have hx := hC.1
  have hb := hC.2.1
  have hl : lv_has ls 4 [(0, .ref (ad (c))), (1, .int a1), (2, .int a2)] := hl
  unfold fX3_swingAfter at hf
  refine lv_aload_n hx hb dX3_swingAfter_0 rfl (lv_at hl 0 rfl) ?_
  refine qget_X3_3 hC hR hc qk_121 dX3_swingAfter_1 ?_
  refine lv_if_le (tgt := 16) hx hb dX3_swingAfter_4 (by decide) (fun c_1 => ?_) (fun c_1 => ?_)
  · have hf := qif_t hf c_1
    refine lv_iconst (v := 0) hx hb dX3_swingAfter_16 (by decide) ?_
    exact mX3_swingAfter_L17 hc hC hr _ _ _ _ _ _ hf hR (lv_sub hl [0, 1, 2] rfl)
  · have hf := qif_f hf c_1
    refine lv_aload_n hx hb dX3_swingAfter_7 rfl (lv_at hl 0 rfl) ?_
    refine qget_X3_3 hC hR hc qk_121 dX3_swingAfter_8 ?_
    refine lv_iconst (v := 1) hx hb dX3_swingAfter_11 (by decide) ?_
    refine lv_isub hx hb dX3_swingAfter_12 ?_
    refine lv_goto (tgt := 17) hx hb dX3_swingAfter_13 (by decide) ?_
    exact mX3_swingAfter_L17 hc hC hr _ _ _ _ _ _ hf hR (lv_sub hl [0, 1, 2] rfl)
-- X3.shakeLamp
def fX3_shakeLamp (w : qMem) (c : Nat) (a1 : Int32) (a2 : Int32) : Option (Int32 × qMem) :=
  if w c 4 = 0 then
    qbd (fX3_swingAfter w c a1 a2) fun (r3 : Int32) =>
    qnm (quw w c 3 r3) fun (w4 : qMem) =>
    if w4 c 3 ≤ 20 then
      qnm (quw w4 c 4 0) fun (w6 : qMem) =>
      if qisB (w6 c 4) = true then
      some (w6 c 4, w6)
      else none
    else
      qnm (quw w4 c 4 1) fun (w8 : qMem) =>
      if qisB (w8 c 4) = true then
      some (w8 c 4, w8)
      else none
  else
    some (0, w)
theorem qhd_X3_shakeLamp : yX3_shakeLamp.cls ≠ "java/lang/invoke/MethodHandle" ∧ yX3_shakeLamp.cls ≠ "java/lang/invoke/VarHandle" ∧ (parseMethodDescriptor yX3_shakeLamp.desc).map (fun d => d.parameters.length) = some 2 := ⟨by decide +kernel, by decide +kernel, by decide +kernel⟩
set_option maxHeartbeats 4000000 in
set_option maxRecDepth 100000 in
theorem mX3_shakeLamp {l : Launch} {D : va_G} {G : Nat → ClassId} {ad : Nat → Nat} (hJ : qInj ad) {w : qMem} {c : Nat} (hc : qisP c) {a1 : Int32} {a2 : Int32} {rF : Int32} {wF : qMem} (hf : fX3_shakeLamp w c a1 a2 = some (rF, wF)) : qCMi l D G ad yX3_shakeLamp cX3_shakeLamp 3 (some .boolean) 2 0 0 [.ref (ad (c)), .int a1, .int a2] w rF wF := by
  refine q_start RX3 rfl (by decide +kernel) hJ (fun a b h => by simp only [qQI, qQV, qQR, h]) (Nat.le_of_ble_eq_true rfl) ?_
  intro p e s m args below meth c0 ls hC hr hR hl
  have hx := hC.1
  have hb := hC.2.1
  have hl : lv_has ls 3 [(0, .ref (ad (c))), (1, .int a1), (2, .int a2)] := hl
  unfold fX3_shakeLamp at hf
  refine lv_aload_n hx hb dX3_shakeLamp_0 rfl (lv_at hl 0 rfl) ?_
  refine qget_X3_4 hC hR hc qk_125 dX3_shakeLamp_1 ?_
  refine lv_if_eq (tgt := 9) hx hb dX3_shakeLamp_4 (by decide) (fun c_1 => ?_) (fun c_1 => ?_)
  · have hf := qif_t hf c_1
    refine lv_aload_n hx hb dX3_shakeLamp_9 rfl (lv_at hl 0 rfl) ?_
    refine lv_aload_n hx hb dX3_shakeLamp_10 rfl (lv_at hl 0 rfl) ?_
    refine lv_iload_n hx hb dX3_shakeLamp_11 rfl (lv_at hl 1 rfl) ?_
    refine lv_iload_n hx hb dX3_shakeLamp_12 rfl (lv_at hl 2 rfl) ?_
    obtain ⟨r3, hq2, hf⟩ := qbd_s hf
    refine q_callVi hC hR (mX3_swingAfter (qJ hC) hc hq2) (qisP_lt hc) (qsh_prop G ad _ hc) rfl qk_410 qk_411 qk_412 qk_60 qk_413 qhd_X3_swingAfter ⟨Nat.le_of_ble_eq_true rfl, Nat.le_of_ble_eq_true rfl⟩ hl.1 rfl (Nat.le_of_ble_eq_true rfl) dX3_shakeLamp_13 ⟨Nat.zero_le _, Nat.zero_le _⟩ (fun H locs hR => ?_)
    refine qput_X3_3 hC hR hc qk_121 ⟨rfl, rfl⟩ dX3_shakeLamp_16 (fun w4 H locs ew4 hR => ?_)
    have hf := qnm_t hf ew4
    refine lv_aload_n hx hb dX3_shakeLamp_19 rfl (lv_at hl 0 rfl) ?_
    refine lv_aload_n hx hb dX3_shakeLamp_20 rfl (lv_at hl 0 rfl) ?_
    refine qget_X3_3 hC hR hc qk_121 dX3_shakeLamp_21 ?_
    refine lv_bipush (v := 20) hx hb dX3_shakeLamp_24 (by decide) ?_
    refine lv_icmp_le (tgt := 33) hx hb dX3_shakeLamp_26 (by decide) (fun c_5 => ?_) (fun c_5 => ?_)
    · have hf := qif_t hf c_5
      refine lv_iconst (v := 0) hx hb dX3_shakeLamp_33 (by decide) ?_
      refine qput_X3_4 hC hR hc qk_125 ⟨by decide, by decide⟩ dX3_shakeLamp_34 (fun w6 H locs ew6 hR => ?_)
      have hf := qnm_t hf ew6
      refine lv_aload_n hx hb dX3_shakeLamp_37 rfl (lv_at hl 0 rfl) ?_
      refine qget_X3_4 hC hR hc qk_125 dX3_shakeLamp_38 ?_
      obtain ⟨g7, hf⟩ := qgd hf
      exact q_iret hC hR hr (qisB_ok g7).1 (qso2 hf).1 (qso2 hf).2 dX3_shakeLamp_41
    · have hf := qif_f hf c_5
      refine lv_iconst (v := 1) hx hb dX3_shakeLamp_29 (by decide) ?_
      refine lv_goto (tgt := 34) hx hb dX3_shakeLamp_30 (by decide) ?_
      refine qput_X3_4 hC hR hc qk_125 ⟨by decide, by decide⟩ dX3_shakeLamp_34 (fun w8 H locs ew8 hR => ?_)
      have hf := qnm_t hf ew8
      refine lv_aload_n hx hb dX3_shakeLamp_37 rfl (lv_at hl 0 rfl) ?_
      refine qget_X3_4 hC hR hc qk_125 dX3_shakeLamp_38 ?_
      obtain ⟨g9, hf⟩ := qgd hf
      exact q_iret hC hR hr (qisB_ok g9).1 (qso2 hf).1 (qso2 hf).2 dX3_shakeLamp_41
  · have hf := qif_f hf c_1
    refine lv_iconst (v := 0) hx hb dX3_shakeLamp_7 (by decide) ?_
    exact q_iret hC hR hr (by decide) (qso2 hf).1 (qso2 hf).2 dX3_shakeLamp_8
-- X3.judge
def fX3_judge (w : qMem) (c : Nat) (a1 : Int32) (a2 : Int32) : Option (Int32 × qMem) :=
  if a2 = 0 then
    qnm (if 0 ≤ (w c 2) - a1 then (w c 2) - a1 else 0 - ((w c 2) - a1)) fun (x2 : Int32) =>
    qnm (5 - x2) fun (x3 : Int32) =>
    if 0 ≤ x3 then
      qnm (quw w c 6 ((w c 6) + x3)) fun (w5 : qMem) =>
      some (x3, w5)
    else
      qnm (quw w c 6 ((w c 6) + 0)) fun (w6 : qMem) =>
      some (0, w6)
  else
    if w c 2 ≤ 0 then
      qnm (quw w c 2 0) fun (w8 : qMem) =>
      some (0, w8)
    else
      qnm (quw w c 2 ((w c 2) - 1)) fun (w9 : qMem) =>
      some (0, w9)
theorem qhd_X3_judge : yX3_judge.cls ≠ "java/lang/invoke/MethodHandle" ∧ yX3_judge.cls ≠ "java/lang/invoke/VarHandle" ∧ (parseMethodDescriptor yX3_judge.desc).map (fun d => d.parameters.length) = some 2 := ⟨by decide +kernel, by decide +kernel, by decide +kernel⟩
set_option maxHeartbeats 4000000 in
set_option maxRecDepth 100000 in
theorem mX3_judge {l : Launch} {D : va_G} {G : Nat → ClassId} {ad : Nat → Nat} (hJ : qInj ad) {w : qMem} {c : Nat} (hc : qisP c) {a1 : Int32} {a2 : Int32} {rF : Int32} {wF : qMem} (hf : fX3_judge w c a1 a2 = some (rF, wF)) : qCMi l D G ad yX3_judge cX3_judge 4 (some .int) 2 0 0 [.ref (ad (c)), .int a1, .int a2] w rF wF := by
  refine q_start RX3 rfl (by decide +kernel) hJ (fun a b h => by simp only [qQI, qQV, qQR, h]) (Nat.le_of_ble_eq_true rfl) ?_
  intro p e s m args below meth c0 ls hC hr hR hl
  have hx := hC.1
  have hb := hC.2.1
  have hl : lv_has ls 4 [(0, .ref (ad (c))), (1, .int a1), (2, .int a2)] := hl
  unfold fX3_judge at hf
  refine lv_iload_n hx hb dX3_judge_0 rfl (lv_at hl 2 rfl) ?_
  refine lv_if_eq (tgt := 27) hx hb dX3_judge_1 (by decide) (fun c_1 => ?_) (fun c_1 => ?_)
  · have hf := qif_t hf c_1
    refine lv_iconst (v := 5) hx hb dX3_judge_27 (by decide) ?_
    refine lv_aload_n hx hb dX3_judge_28 rfl (lv_at hl 0 rfl) ?_
    refine qget_X3_2 hC hR hc qk_117 dX3_judge_29 ?_
    refine lv_iload_n hx hb dX3_judge_32 rfl (lv_at hl 1 rfl) ?_
    refine lv_isub hx hb dX3_judge_33 ?_
    refine va_mabs hx hb (hC.2.2.1.trans hl.1.symm) hC.2.2.2.1 (hC.2.2.2.2.1 _ qk_426) (hC.2.2.2.2.1 _ qk_427) (hC.2.2.2.2.1 _ qk_65) (hC.2.2.2.2.1 _ qk_428) (Nat.le_of_ble_eq_true rfl) (Nat.le_of_ble_eq_true rfl) (Nat.zero_le _) (Nat.zero_le _) dX3_judge_34 ?_
    refine lv_topi (fun x2 ex2 => ?_)
    have hf := qnm_t hf ex2
    refine lv_isub hx hb dX3_judge_37 ?_
    refine lv_topi (fun x3 ex3 => ?_)
    have hf := qnm_t hf ex3
    refine lv_istore_n (lv' := [(3, .int x3), (0, .ref (ad (c))), (1, .int a1), (2, .int a2)]) hx hb dX3_judge_38 rfl hl (by decide) rfl (fun ls hl => ?_)
    refine lv_iload_n hx hb dX3_judge_39 rfl (lv_at hl 0 rfl) ?_
    refine lv_if_ge (tgt := 45) hx hb dX3_judge_40 (by decide) (fun c_4 => ?_) (fun c_4 => ?_)
    · have hf := qif_t hf c_4
      refine lv_aload_n hx hb dX3_judge_45 rfl (lv_at hl 1 rfl) ?_
      refine lv_dup hx hb dX3_judge_46 rfl ?_
      refine qget_X3_6 hC hR hc qk_132 dX3_judge_47 ?_
      refine lv_iload_n hx hb dX3_judge_50 rfl (lv_at hl 0 rfl) ?_
      refine lv_iadd hx hb dX3_judge_51 ?_
      refine qput_X3_6 hC hR hc qk_132 ⟨rfl, rfl⟩ dX3_judge_52 (fun w5 H locs ew5 hR => ?_)
      have hf := qnm_t hf ew5
      refine lv_iload_n hx hb dX3_judge_55 rfl (lv_at hl 0 rfl) ?_
      exact q_iret hC hR hr rfl (qso2 hf).1 (qso2 hf).2 dX3_judge_56
    · have hf := qif_f hf c_4
      refine lv_iconst (v := 0) hx hb dX3_judge_43 (by decide) ?_
      refine lv_istore_n (lv' := [(3, .int 0), (0, .ref (ad (c))), (1, .int a1), (2, .int a2)]) hx hb dX3_judge_44 rfl hl (by decide) rfl (fun ls hl => ?_)
      refine lv_aload_n hx hb dX3_judge_45 rfl (lv_at hl 1 rfl) ?_
      refine lv_dup hx hb dX3_judge_46 rfl ?_
      refine qget_X3_6 hC hR hc qk_132 dX3_judge_47 ?_
      refine lv_iload_n hx hb dX3_judge_50 rfl (lv_at hl 0 rfl) ?_
      refine lv_iadd hx hb dX3_judge_51 ?_
      refine qput_X3_6 hC hR hc qk_132 ⟨rfl, rfl⟩ dX3_judge_52 (fun w6 H locs ew6 hR => ?_)
      have hf := qnm_t hf ew6
      refine lv_iload_n hx hb dX3_judge_55 rfl (lv_at hl 0 rfl) ?_
      exact q_iret hC hR hr rfl (qso2 hf).1 (qso2 hf).2 dX3_judge_56
  · have hf := qif_f hf c_1
    refine lv_aload_n hx hb dX3_judge_4 rfl (lv_at hl 0 rfl) ?_
    refine lv_aload_n hx hb dX3_judge_5 rfl (lv_at hl 0 rfl) ?_
    refine qget_X3_2 hC hR hc qk_117 dX3_judge_6 ?_
    refine lv_if_le (tgt := 21) hx hb dX3_judge_9 (by decide) (fun c_7 => ?_) (fun c_7 => ?_)
    · have hf := qif_t hf c_7
      refine lv_iconst (v := 0) hx hb dX3_judge_21 (by decide) ?_
      refine qput_X3_2 hC hR hc qk_117 ⟨rfl, rfl⟩ dX3_judge_22 (fun w8 H locs ew8 hR => ?_)
      have hf := qnm_t hf ew8
      refine lv_iconst (v := 0) hx hb dX3_judge_25 (by decide) ?_
      exact q_iret hC hR hr rfl (qso2 hf).1 (qso2 hf).2 dX3_judge_26
    · have hf := qif_f hf c_7
      refine lv_aload_n hx hb dX3_judge_12 rfl (lv_at hl 0 rfl) ?_
      refine qget_X3_2 hC hR hc qk_117 dX3_judge_13 ?_
      refine lv_iconst (v := 1) hx hb dX3_judge_16 (by decide) ?_
      refine lv_isub hx hb dX3_judge_17 ?_
      refine lv_goto (tgt := 22) hx hb dX3_judge_18 (by decide) ?_
      refine qput_X3_2 hC hR hc qk_117 ⟨rfl, rfl⟩ dX3_judge_22 (fun w9 H locs ew9 hR => ?_)
      have hf := qnm_t hf ew9
      refine lv_iconst (v := 0) hx hb dX3_judge_25 (by decide) ?_
      exact q_iret hC hR hr rfl (qso2 hf).1 (qso2 hf).2 dX3_judge_26
-- X3.wouldBreakBy
def fX3_wouldBreakBy (w : qMem) (c : Nat) (a1 : Int32) (a2 : Int32) : Option (Int32) :=
  if w c 0 = 1 then
    if w c 3 = 2 then
      if a1 < w c 2 then
        some (0)
      else
        some (1)
    else
      some (0)
  else
    if w c 0 = 2 then
      if (20 : Int32) < w c 3 then
        some (0)
      else
        qbd (fX3_swingAfter w c a1 a2) fun (r5 : Int32) =>
        if r5 ≤ 20 then
          some (0)
        else
          some (1)
    else
      some (0)
theorem qhd_X3_wouldBreakBy : yX3_wouldBreakBy.cls ≠ "java/lang/invoke/MethodHandle" ∧ yX3_wouldBreakBy.cls ≠ "java/lang/invoke/VarHandle" ∧ (parseMethodDescriptor yX3_wouldBreakBy.desc).map (fun d => d.parameters.length) = some 2 := ⟨by decide +kernel, by decide +kernel, by decide +kernel⟩
set_option maxHeartbeats 4000000 in
set_option maxRecDepth 100000 in
theorem mX3_wouldBreakBy {l : Launch} {D : va_G} {G : Nat → ClassId} {ad : Nat → Nat} (hJ : qInj ad) {w : qMem} {c : Nat} (hc : qisP c) {a1 : Int32} {a2 : Int32} {rF : Int32} (hf : fX3_wouldBreakBy w c a1 a2 = some rF) : qCMi l D G ad yX3_wouldBreakBy cX3_wouldBreakBy 3 (some .boolean) 2 0 0 [.ref (ad (c)), .int a1, .int a2] w rF w := by
  refine q_start RX3 rfl (by decide +kernel) hJ (fun a b h => by simp only [qQI, qQV, qQR, h]) (Nat.le_of_ble_eq_true rfl) ?_
  intro p e s m args below meth c0 ls hC hr hR hl
  have hx := hC.1
  have hb := hC.2.1
  have hl : lv_has ls 3 [(0, .ref (ad (c))), (1, .int a1), (2, .int a2)] := hl
  unfold fX3_wouldBreakBy at hf
  refine lv_aload_n hx hb dX3_wouldBreakBy_0 rfl (lv_at hl 0 rfl) ?_
  refine qget_X3_0 hC hR hc qk_109 dX3_wouldBreakBy_1 ?_
  refine lv_iconst (v := 1) hx hb dX3_wouldBreakBy_4 (by decide) ?_
  refine lv_icmp_ne (tgt := 30) hx hb dX3_wouldBreakBy_5 (by decide) (fun c_1 => ?_) (fun c_1 => ?_)
  · have hf := qif_f hf c_1
    refine lv_aload_n hx hb dX3_wouldBreakBy_30 rfl (lv_at hl 0 rfl) ?_
    refine qget_X3_0 hC hR hc qk_109 dX3_wouldBreakBy_31 ?_
    refine lv_iconst (v := 2) hx hb dX3_wouldBreakBy_34 (by decide) ?_
    refine lv_icmp_ne (tgt := 62) hx hb dX3_wouldBreakBy_35 (by decide) (fun c_2 => ?_) (fun c_2 => ?_)
    · have hf := qif_f hf c_2
      refine lv_iconst (v := 0) hx hb dX3_wouldBreakBy_62 (by decide) ?_
      exact q_iret hC hR hr (by decide) (qso hf) rfl dX3_wouldBreakBy_63
    · have hf := qif_t hf c_2
      refine lv_aload_n hx hb dX3_wouldBreakBy_38 rfl (lv_at hl 0 rfl) ?_
      refine qget_X3_3 hC hR hc qk_121 dX3_wouldBreakBy_39 ?_
      refine lv_bipush (v := 20) hx hb dX3_wouldBreakBy_42 (by decide) ?_
      refine lv_icmp_gt (tgt := 62) hx hb dX3_wouldBreakBy_44 (by decide) (fun c_3 => ?_) (fun c_3 => ?_)
      · have hf := qif_t hf c_3
        refine lv_iconst (v := 0) hx hb dX3_wouldBreakBy_62 (by decide) ?_
        exact q_iret hC hR hr (by decide) (qso hf) rfl dX3_wouldBreakBy_63
      · have hf := qif_f hf c_3
        refine lv_aload_n hx hb dX3_wouldBreakBy_47 rfl (lv_at hl 0 rfl) ?_
        refine lv_iload_n hx hb dX3_wouldBreakBy_48 rfl (lv_at hl 1 rfl) ?_
        refine lv_iload_n hx hb dX3_wouldBreakBy_49 rfl (lv_at hl 2 rfl) ?_
        obtain ⟨r5, hq4, hf⟩ := qbd_s hf
        refine q_callVi hC hR (mX3_swingAfter (qJ hC) hc hq4) (qisP_lt hc) (qsh_prop G ad _ hc) rfl qk_410 qk_411 qk_412 qk_60 qk_413 qhd_X3_swingAfter ⟨Nat.le_of_ble_eq_true rfl, Nat.le_of_ble_eq_true rfl⟩ hl.1 rfl (Nat.le_of_ble_eq_true rfl) dX3_wouldBreakBy_50 ⟨Nat.zero_le _, Nat.zero_le _⟩ (fun H locs hR => ?_)
        refine lv_bipush (v := 20) hx hb dX3_wouldBreakBy_53 (by decide) ?_
        refine lv_icmp_le (tgt := 62) hx hb dX3_wouldBreakBy_55 (by decide) (fun c_6 => ?_) (fun c_6 => ?_)
        · have hf := qif_t hf c_6
          refine lv_iconst (v := 0) hx hb dX3_wouldBreakBy_62 (by decide) ?_
          exact q_iret hC hR hr (by decide) (qso hf) rfl dX3_wouldBreakBy_63
        · have hf := qif_f hf c_6
          refine lv_iconst (v := 1) hx hb dX3_wouldBreakBy_58 (by decide) ?_
          refine lv_goto (tgt := 63) hx hb dX3_wouldBreakBy_59 (by decide) ?_
          exact q_iret hC hR hr (by decide) (qso hf) rfl dX3_wouldBreakBy_63
  · have hf := qif_t hf c_1
    refine lv_aload_n hx hb dX3_wouldBreakBy_8 rfl (lv_at hl 0 rfl) ?_
    refine qget_X3_3 hC hR hc qk_121 dX3_wouldBreakBy_9 ?_
    refine lv_iconst (v := 2) hx hb dX3_wouldBreakBy_12 (by decide) ?_
    refine lv_icmp_ne (tgt := 28) hx hb dX3_wouldBreakBy_13 (by decide) (fun c_7 => ?_) (fun c_7 => ?_)
    · have hf := qif_f hf c_7
      refine lv_iconst (v := 0) hx hb dX3_wouldBreakBy_28 (by decide) ?_
      exact q_iret hC hR hr (by decide) (qso hf) rfl dX3_wouldBreakBy_29
    · have hf := qif_t hf c_7
      refine lv_iload_n hx hb dX3_wouldBreakBy_16 rfl (lv_at hl 1 rfl) ?_
      refine lv_aload_n hx hb dX3_wouldBreakBy_17 rfl (lv_at hl 0 rfl) ?_
      refine qget_X3_2 hC hR hc qk_117 dX3_wouldBreakBy_18 ?_
      refine lv_icmp_lt (tgt := 28) hx hb dX3_wouldBreakBy_21 (by decide) (fun c_8 => ?_) (fun c_8 => ?_)
      · have hf := qif_t hf c_8
        refine lv_iconst (v := 0) hx hb dX3_wouldBreakBy_28 (by decide) ?_
        exact q_iret hC hR hr (by decide) (qso hf) rfl dX3_wouldBreakBy_29
      · have hf := qif_f hf c_8
        refine lv_iconst (v := 1) hx hb dX3_wouldBreakBy_24 (by decide) ?_
        refine lv_goto (tgt := 29) hx hb dX3_wouldBreakBy_25 (by decide) ?_
        exact q_iret hC hR hr (by decide) (qso hf) rfl dX3_wouldBreakBy_29
-- X3.isDamageRight
def fX3_isDamageRight (w : qMem) (c : Nat)  : Option (Int32) :=
  if w c 0 = 1 then
    if w c 3 = 3 then
      if w c 4 = 1 then
        some (1)
      else
        some (0)
    else
      if w c 4 = 0 then
        some (1)
      else
        some (0)
  else
    if w c 0 = 2 then
      if w c 3 ≤ 20 then
        if w c 4 = 0 then
          some (1)
        else
          some (0)
      else
        if w c 4 = 1 then
          some (1)
        else
          some (0)
    else
      some (1)
theorem qhd_X3_isDamageRight : yX3_isDamageRight.cls ≠ "java/lang/invoke/MethodHandle" ∧ yX3_isDamageRight.cls ≠ "java/lang/invoke/VarHandle" ∧ (parseMethodDescriptor yX3_isDamageRight.desc).map (fun d => d.parameters.length) = some 0 := ⟨by decide +kernel, by decide +kernel, by decide +kernel⟩
set_option maxHeartbeats 4000000 in
set_option maxRecDepth 100000 in
theorem mX3_isDamageRight {l : Launch} {D : va_G} {G : Nat → ClassId} {ad : Nat → Nat} (hJ : qInj ad) {w : qMem} {c : Nat} (hc : qisP c)  {rF : Int32} (hf : fX3_isDamageRight w c = some rF) : qCMi l D G ad yX3_isDamageRight cX3_isDamageRight 1 (some .boolean) 1 0 0 [.ref (ad (c))] w rF w := by
  refine q_start RX3 rfl (by decide +kernel) hJ (fun a b h => by simp only [qQI, qQV, qQR, h]) (Nat.le_of_ble_eq_true rfl) ?_
  intro p e s m args below meth c0 ls hC hr hR hl
  have hx := hC.1
  have hb := hC.2.1
  have hl : lv_has ls 1 [(0, .ref (ad (c)))] := hl
  unfold fX3_isDamageRight at hf
  refine lv_aload_n hx hb dX3_isDamageRight_0 rfl (lv_at hl 0 rfl) ?_
  refine qget_X3_0 hC hR hc qk_109 dX3_isDamageRight_1 ?_
  refine lv_iconst (v := 1) hx hb dX3_isDamageRight_4 (by decide) ?_
  refine lv_icmp_ne (tgt := 34) hx hb dX3_isDamageRight_5 (by decide) (fun c_1 => ?_) (fun c_1 => ?_)
  · have hf := qif_f hf c_1
    refine lv_aload_n hx hb dX3_isDamageRight_34 rfl (lv_at hl 0 rfl) ?_
    refine qget_X3_0 hC hR hc qk_109 dX3_isDamageRight_35 ?_
    refine lv_iconst (v := 2) hx hb dX3_isDamageRight_38 (by decide) ?_
    refine lv_icmp_ne (tgt := 63) hx hb dX3_isDamageRight_39 (by decide) (fun c_2 => ?_) (fun c_2 => ?_)
    · have hf := qif_f hf c_2
      refine lv_iconst (v := 1) hx hb dX3_isDamageRight_63 (by decide) ?_
      refine lv_goto (tgt := 68) hx hb dX3_isDamageRight_64 (by decide) ?_
      exact q_iret hC hR hr (by decide) (qso hf) rfl dX3_isDamageRight_68
    · have hf := qif_t hf c_2
      refine lv_aload_n hx hb dX3_isDamageRight_42 rfl (lv_at hl 0 rfl) ?_
      refine qget_X3_4 hC hR hc qk_125 dX3_isDamageRight_43 ?_
      refine lv_aload_n hx hb dX3_isDamageRight_46 rfl (lv_at hl 0 rfl) ?_
      refine qget_X3_3 hC hR hc qk_121 dX3_isDamageRight_47 ?_
      refine lv_bipush (v := 20) hx hb dX3_isDamageRight_50 (by decide) ?_
      refine lv_icmp_le (tgt := 59) hx hb dX3_isDamageRight_52 (by decide) (fun c_3 => ?_) (fun c_3 => ?_)
      · have hf := qif_t hf c_3
        refine lv_iconst (v := 0) hx hb dX3_isDamageRight_59 (by decide) ?_
        refine lv_icmp_ne (tgt := 67) hx hb dX3_isDamageRight_60 (by decide) (fun c_4 => ?_) (fun c_4 => ?_)
        · have hf := qif_f hf c_4
          refine lv_iconst (v := 0) hx hb dX3_isDamageRight_67 (by decide) ?_
          exact q_iret hC hR hr (by decide) (qso hf) rfl dX3_isDamageRight_68
        · have hf := qif_t hf c_4
          refine lv_iconst (v := 1) hx hb dX3_isDamageRight_63 (by decide) ?_
          refine lv_goto (tgt := 68) hx hb dX3_isDamageRight_64 (by decide) ?_
          exact q_iret hC hR hr (by decide) (qso hf) rfl dX3_isDamageRight_68
      · have hf := qif_f hf c_3
        refine lv_iconst (v := 1) hx hb dX3_isDamageRight_55 (by decide) ?_
        refine lv_goto (tgt := 60) hx hb dX3_isDamageRight_56 (by decide) ?_
        refine lv_icmp_ne (tgt := 67) hx hb dX3_isDamageRight_60 (by decide) (fun c_5 => ?_) (fun c_5 => ?_)
        · have hf := qif_f hf c_5
          refine lv_iconst (v := 0) hx hb dX3_isDamageRight_67 (by decide) ?_
          exact q_iret hC hR hr (by decide) (qso hf) rfl dX3_isDamageRight_68
        · have hf := qif_t hf c_5
          refine lv_iconst (v := 1) hx hb dX3_isDamageRight_63 (by decide) ?_
          refine lv_goto (tgt := 68) hx hb dX3_isDamageRight_64 (by decide) ?_
          exact q_iret hC hR hr (by decide) (qso hf) rfl dX3_isDamageRight_68
  · have hf := qif_t hf c_1
    refine lv_aload_n hx hb dX3_isDamageRight_8 rfl (lv_at hl 0 rfl) ?_
    refine qget_X3_4 hC hR hc qk_125 dX3_isDamageRight_9 ?_
    refine lv_aload_n hx hb dX3_isDamageRight_12 rfl (lv_at hl 0 rfl) ?_
    refine qget_X3_3 hC hR hc qk_121 dX3_isDamageRight_13 ?_
    refine lv_iconst (v := 3) hx hb dX3_isDamageRight_16 (by decide) ?_
    refine lv_icmp_ne (tgt := 24) hx hb dX3_isDamageRight_17 (by decide) (fun c_6 => ?_) (fun c_6 => ?_)
    · have hf := qif_f hf c_6
      refine lv_iconst (v := 0) hx hb dX3_isDamageRight_24 (by decide) ?_
      refine lv_icmp_ne (tgt := 32) hx hb dX3_isDamageRight_25 (by decide) (fun c_7 => ?_) (fun c_7 => ?_)
      · have hf := qif_f hf c_7
        refine lv_iconst (v := 0) hx hb dX3_isDamageRight_32 (by decide) ?_
        exact q_iret hC hR hr (by decide) (qso hf) rfl dX3_isDamageRight_33
      · have hf := qif_t hf c_7
        refine lv_iconst (v := 1) hx hb dX3_isDamageRight_28 (by decide) ?_
        refine lv_goto (tgt := 33) hx hb dX3_isDamageRight_29 (by decide) ?_
        exact q_iret hC hR hr (by decide) (qso hf) rfl dX3_isDamageRight_33
    · have hf := qif_t hf c_6
      refine lv_iconst (v := 1) hx hb dX3_isDamageRight_20 (by decide) ?_
      refine lv_goto (tgt := 25) hx hb dX3_isDamageRight_21 (by decide) ?_
      refine lv_icmp_ne (tgt := 32) hx hb dX3_isDamageRight_25 (by decide) (fun c_8 => ?_) (fun c_8 => ?_)
      · have hf := qif_f hf c_8
        refine lv_iconst (v := 0) hx hb dX3_isDamageRight_32 (by decide) ?_
        exact q_iret hC hR hr (by decide) (qso hf) rfl dX3_isDamageRight_33
      · have hf := qif_t hf c_8
        refine lv_iconst (v := 1) hx hb dX3_isDamageRight_28 (by decide) ?_
        refine lv_goto (tgt := 33) hx hb dX3_isDamageRight_29 (by decide) ?_
        exact q_iret hC hR hr (by decide) (qso hf) rfl dX3_isDamageRight_33
-- X3.orderTo
def fX3_orderTo (w : qMem) (c : Nat) (c1 : Nat)  : Option (Int32) :=
  if w c 0 = 1 then
    qbd (fJ6_compare_7cf53 w (w c1 2) (w c 2)) fun (r11 : Int32) =>
    if r11 = 0 then
      qbd (fJ6_compare_7cf53 w (w c 3) (w c1 3)) fun (r14 : Int32) =>
      some (r14)
    else
      some (r11)
  else
    if w c 0 = 2 then
      qbd (fJ6_compare_7cf53 w (w c1 3) (w c 3)) fun (r6 : Int32) =>
      if r6 = 0 then
        qbd (fJ6_compare_7cf53 w (w c1 2) (w c 2)) fun (r9 : Int32) =>
        some (r9)
      else
        some (r6)
    else
      qbd (fJ6_compare_7cf53 w (w c1 6) (w c 6)) fun (r4 : Int32) =>
      some (r4)
theorem qhd_X3_orderTo : yX3_orderTo.cls ≠ "java/lang/invoke/MethodHandle" ∧ yX3_orderTo.cls ≠ "java/lang/invoke/VarHandle" ∧ (parseMethodDescriptor yX3_orderTo.desc).map (fun d => d.parameters.length) = some 1 := ⟨by decide +kernel, by decide +kernel, by decide +kernel⟩
set_option maxHeartbeats 4000000 in
set_option maxRecDepth 100000 in
theorem mX3_orderTo {l : Launch} {D : va_G} {G : Nat → ClassId} {ad : Nat → Nat} (hJ : qInj ad) {w : qMem} {c : Nat} {c1 : Nat} (hc : qisP c) (hc1 : qisP c1)  {rF : Int32} (hf : fX3_orderTo w c c1 = some rF) : qCMi l D G ad yX3_orderTo cX3_orderTo 3 (some .int) 2 0 0 [.ref (ad (c)), .ref (ad (c1))] w rF w := by
  refine q_start RX3 rfl (by decide +kernel) hJ (fun a b h => by simp only [qQI, qQV, qQR, h]) (Nat.le_of_ble_eq_true rfl) ?_
  intro p e s m args below meth c0 ls hC hr hR hl
  have hx := hC.1
  have hb := hC.2.1
  have hl : lv_has ls 3 [(0, .ref (ad (c))), (1, .ref (ad (c1)))] := hl
  unfold fX3_orderTo at hf
  refine lv_aload_n hx hb dX3_orderTo_0 rfl (lv_at hl 0 rfl) ?_
  refine qget_X3_0 hC hR hc qk_109 dX3_orderTo_1 ?_
  refine lv_iconst (v := 1) hx hb dX3_orderTo_4 (by decide) ?_
  refine lv_icmp_ne (tgt := 40) hx hb dX3_orderTo_5 (by decide) (fun c_1 => ?_) (fun c_1 => ?_)
  · have hf := qif_f hf c_1
    refine lv_aload_n hx hb dX3_orderTo_40 rfl (lv_at hl 0 rfl) ?_
    refine qget_X3_0 hC hR hc qk_109 dX3_orderTo_41 ?_
    refine lv_iconst (v := 2) hx hb dX3_orderTo_44 (by decide) ?_
    refine lv_icmp_ne (tgt := 80) hx hb dX3_orderTo_45 (by decide) (fun c_2 => ?_) (fun c_2 => ?_)
    · have hf := qif_f hf c_2
      refine lv_aload_n hx hb dX3_orderTo_80 rfl (lv_at hl 1 rfl) ?_
      refine qget_X3_6 hC hR hc1 qk_132 dX3_orderTo_81 ?_
      refine lv_aload_n hx hb dX3_orderTo_84 rfl (lv_at hl 0 rfl) ?_
      refine qget_X3_6 hC hR hc qk_132 dX3_orderTo_85 ?_
      obtain ⟨r4, hq3, hf⟩ := qbd_s hf
      refine q_callSi hC hR (mJ6_compare_7cf53 (qJ hC) hq3) qk_845 qk_846 qk_77 qk_847 qhd_J6_compare_7cf53 ⟨Nat.le_of_ble_eq_true rfl, Nat.le_of_ble_eq_true rfl⟩ hl.1 rfl (Nat.le_of_ble_eq_true rfl) dX3_orderTo_88 ⟨Nat.zero_le _, Nat.zero_le _⟩ (fun H locs hR => ?_)
      exact q_iret hC hR hr rfl (qso hf) rfl dX3_orderTo_91
    · have hf := qif_t hf c_2
      refine lv_aload_n hx hb dX3_orderTo_48 rfl (lv_at hl 1 rfl) ?_
      refine qget_X3_3 hC hR hc1 qk_121 dX3_orderTo_49 ?_
      refine lv_aload_n hx hb dX3_orderTo_52 rfl (lv_at hl 0 rfl) ?_
      refine qget_X3_3 hC hR hc qk_121 dX3_orderTo_53 ?_
      obtain ⟨r6, hq5, hf⟩ := qbd_s hf
      refine q_callSi hC hR (mJ6_compare_7cf53 (qJ hC) hq5) qk_845 qk_846 qk_77 qk_847 qhd_J6_compare_7cf53 ⟨Nat.le_of_ble_eq_true rfl, Nat.le_of_ble_eq_true rfl⟩ hl.1 rfl (Nat.le_of_ble_eq_true rfl) dX3_orderTo_56 ⟨Nat.zero_le _, Nat.zero_le _⟩ (fun H locs hR => ?_)
      refine lv_istore_n (lv' := [(2, .int r6), (0, .ref (ad (c))), (1, .ref (ad (c1)))]) hx hb dX3_orderTo_59 rfl hl (by decide) rfl (fun ls hl => ?_)
      refine lv_iload_n hx hb dX3_orderTo_60 rfl (lv_at hl 0 rfl) ?_
      refine lv_if_eq (tgt := 68) hx hb dX3_orderTo_61 (by decide) (fun c_7 => ?_) (fun c_7 => ?_)
      · have hf := qif_t hf c_7
        refine lv_aload_n hx hb dX3_orderTo_68 rfl (lv_at hl 2 rfl) ?_
        refine qget_X3_2 hC hR hc1 qk_117 dX3_orderTo_69 ?_
        refine lv_aload_n hx hb dX3_orderTo_72 rfl (lv_at hl 1 rfl) ?_
        refine qget_X3_2 hC hR hc qk_117 dX3_orderTo_73 ?_
        obtain ⟨r9, hq8, hf⟩ := qbd_s hf
        refine q_callSi hC hR (mJ6_compare_7cf53 (qJ hC) hq8) qk_845 qk_846 qk_77 qk_847 qhd_J6_compare_7cf53 ⟨Nat.le_of_ble_eq_true rfl, Nat.le_of_ble_eq_true rfl⟩ hl.1 rfl (Nat.le_of_ble_eq_true rfl) dX3_orderTo_76 ⟨Nat.zero_le _, Nat.zero_le _⟩ (fun H locs hR => ?_)
        exact q_iret hC hR hr rfl (qso hf) rfl dX3_orderTo_79
      · have hf := qif_f hf c_7
        refine lv_iload_n hx hb dX3_orderTo_64 rfl (lv_at hl 0 rfl) ?_
        refine lv_goto (tgt := 79) hx hb dX3_orderTo_65 (by decide) ?_
        exact q_iret hC hR hr rfl (qso hf) rfl dX3_orderTo_79
  · have hf := qif_t hf c_1
    refine lv_aload_n hx hb dX3_orderTo_8 rfl (lv_at hl 1 rfl) ?_
    refine qget_X3_2 hC hR hc1 qk_117 dX3_orderTo_9 ?_
    refine lv_aload_n hx hb dX3_orderTo_12 rfl (lv_at hl 0 rfl) ?_
    refine qget_X3_2 hC hR hc qk_117 dX3_orderTo_13 ?_
    obtain ⟨r11, hq10, hf⟩ := qbd_s hf
    refine q_callSi hC hR (mJ6_compare_7cf53 (qJ hC) hq10) qk_845 qk_846 qk_77 qk_847 qhd_J6_compare_7cf53 ⟨Nat.le_of_ble_eq_true rfl, Nat.le_of_ble_eq_true rfl⟩ hl.1 rfl (Nat.le_of_ble_eq_true rfl) dX3_orderTo_16 ⟨Nat.zero_le _, Nat.zero_le _⟩ (fun H locs hR => ?_)
    refine lv_istore_n (lv' := [(2, .int r11), (0, .ref (ad (c))), (1, .ref (ad (c1)))]) hx hb dX3_orderTo_19 rfl hl (by decide) rfl (fun ls hl => ?_)
    refine lv_iload_n hx hb dX3_orderTo_20 rfl (lv_at hl 0 rfl) ?_
    refine lv_if_eq (tgt := 28) hx hb dX3_orderTo_21 (by decide) (fun c_12 => ?_) (fun c_12 => ?_)
    · have hf := qif_t hf c_12
      refine lv_aload_n hx hb dX3_orderTo_28 rfl (lv_at hl 1 rfl) ?_
      refine qget_X3_3 hC hR hc qk_121 dX3_orderTo_29 ?_
      refine lv_aload_n hx hb dX3_orderTo_32 rfl (lv_at hl 2 rfl) ?_
      refine qget_X3_3 hC hR hc1 qk_121 dX3_orderTo_33 ?_
      obtain ⟨r14, hq13, hf⟩ := qbd_s hf
      refine q_callSi hC hR (mJ6_compare_7cf53 (qJ hC) hq13) qk_845 qk_846 qk_77 qk_847 qhd_J6_compare_7cf53 ⟨Nat.le_of_ble_eq_true rfl, Nat.le_of_ble_eq_true rfl⟩ hl.1 rfl (Nat.le_of_ble_eq_true rfl) dX3_orderTo_36 ⟨Nat.zero_le _, Nat.zero_le _⟩ (fun H locs hR => ?_)
      exact q_iret hC hR hr rfl (qso hf) rfl dX3_orderTo_39
    · have hf := qif_f hf c_12
      refine lv_iload_n hx hb dX3_orderTo_24 rfl (lv_at hl 0 rfl) ?_
      refine lv_goto (tgt := 39) hx hb dX3_orderTo_25 (by decide) ?_
      exact q_iret hC hR hr rfl (qso hf) rfl dX3_orderTo_39
end
