-- ===== PART A: goes FIRST, ahead of the names: the tables' words, and 'selects' of the private methods out of them =====
/-- a private method of a class that the tables say can be made, by its rows of tables_1 -/
def lw_okq (q : MethodName × Nat) : Prop := (q.1.cls ≠ "java/lang/invoke/MethodHandle" ∧ q.1.cls ≠ "java/lang/invoke/VarHandle") ∧ Cond.instantiable q.1.cls q.2 ∈ tables_1 ∧ Cond.privateMethod q.1 ∈ tables_1 ∧ Cond.instanceMethod q.1 ∈ tables_1
theorem lw_p0 : lw_okq (⟨"QuakeRehearsal", "placed", "(III)I"⟩, 11) := ⟨⟨by decide +kernel, by decide +kernel⟩, List.mem_of_getElem? (i := 33) (by decide +kernel), List.mem_of_getElem? (i := 256) (by decide +kernel), List.mem_of_getElem? (i := 257) (by decide +kernel)⟩
theorem lw_p1 : lw_okq (⟨"QuakeRehearsal", "change", "(III)I"⟩, 11) := ⟨⟨by decide +kernel, by decide +kernel⟩, List.mem_of_getElem? (i := 33) (by decide +kernel), List.mem_of_getElem? (i := 260) (by decide +kernel), List.mem_of_getElem? (i := 261) (by decide +kernel)⟩
theorem lw_p2 : lw_okq (⟨"QuakeRehearsal", "tryOrder", "(III)I"⟩, 11) := ⟨⟨by decide +kernel, by decide +kernel⟩, List.mem_of_getElem? (i := 33) (by decide +kernel), List.mem_of_getElem? (i := 280) (by decide +kernel), List.mem_of_getElem? (i := 281) (by decide +kernel)⟩
theorem lw_p3 : lw_okq (⟨"QuakeRehearsal", "tryPlacing", "(III)I"⟩, 11) := ⟨⟨by decide +kernel, by decide +kernel⟩, List.mem_of_getElem? (i := 33) (by decide +kernel), List.mem_of_getElem? (i := 284) (by decide +kernel), List.mem_of_getElem? (i := 285) (by decide +kernel)⟩
theorem lw_p4 : lw_okq (⟨"QuakeRehearsal", "refuse", "(II)I"⟩, 11) := ⟨⟨by decide +kernel, by decide +kernel⟩, List.mem_of_getElem? (i := 33) (by decide +kernel), List.mem_of_getElem? (i := 291) (by decide +kernel), List.mem_of_getElem? (i := 292) (by decide +kernel)⟩
theorem lw_p5 : lw_okq (⟨"QuakeRehearsal", "answered", "(I)I"⟩, 11) := ⟨⟨by decide +kernel, by decide +kernel⟩, List.mem_of_getElem? (i := 33) (by decide +kernel), List.mem_of_getElem? (i := 307) (by decide +kernel), List.mem_of_getElem? (i := 308) (by decide +kernel)⟩
theorem lw_p6 : lw_okq (⟨"QuakeRehearsal", "tryTaking", "(I)I"⟩, 11) := ⟨⟨by decide +kernel, by decide +kernel⟩, List.mem_of_getElem? (i := 33) (by decide +kernel), List.mem_of_getElem? (i := 311) (by decide +kernel), List.mem_of_getElem? (i := 312) (by decide +kernel)⟩
theorem lw_p7 : lw_okq (⟨"QuakeRehearsal", "tryCueing", "(II)I"⟩, 11) := ⟨⟨by decide +kernel, by decide +kernel⟩, List.mem_of_getElem? (i := 33) (by decide +kernel), List.mem_of_getElem? (i := 319) (by decide +kernel), List.mem_of_getElem? (i := 320) (by decide +kernel)⟩
theorem lw_p8 : lw_okq (⟨"QuakeRehearsal", "trySetting", "(I)I"⟩, 11) := ⟨⟨by decide +kernel, by decide +kernel⟩, List.mem_of_getElem? (i := 33) (by decide +kernel), List.mem_of_getElem? (i := 327) (by decide +kernel), List.mem_of_getElem? (i := 328) (by decide +kernel)⟩
theorem lw_p9 : lw_okq (⟨"QuakeRehearsal", "tryAdding", "(I)I"⟩, 11) := ⟨⟨by decide +kernel, by decide +kernel⟩, List.mem_of_getElem? (i := 33) (by decide +kernel), List.mem_of_getElem? (i := 387) (by decide +kernel), List.mem_of_getElem? (i := 388) (by decide +kernel)⟩
theorem lw_p10 : lw_okq (⟨"java/lang/Throwable", "fillInStackTrace", "(I)Ljava/lang/Throwable;"⟩, 6) := ⟨⟨by decide +kernel, by decide +kernel⟩, List.mem_of_getElem? (i := 458) (by decide +kernel), List.mem_of_getElem? (i := 456) (by decide +kernel), List.mem_of_getElem? (i := 457) (by decide +kernel)⟩
theorem lw_p11 : lw_okq (⟨"QuakeRehearsal", "strengthTold", "(II)I"⟩, 11) := ⟨⟨by decide +kernel, by decide +kernel⟩, List.mem_of_getElem? (i := 33) (by decide +kernel), List.mem_of_getElem? (i := 605) (by decide +kernel), List.mem_of_getElem? (i := 606) (by decide +kernel)⟩
theorem lw_p12 : lw_okq (⟨"QuakeRehearsal", "propNumbered", "(I)LQuakeRehearsal$Prop;"⟩, 11) := ⟨⟨by decide +kernel, by decide +kernel⟩, List.mem_of_getElem? (i := 33) (by decide +kernel), List.mem_of_getElem? (i := 637) (by decide +kernel), List.mem_of_getElem? (i := 638) (by decide +kernel)⟩
theorem lw_p13 : lw_okq (⟨"QuakeRehearsal", "marksInThought", "(I)I"⟩, 11) := ⟨⟨by decide +kernel, by decide +kernel⟩, List.mem_of_getElem? (i := 33) (by decide +kernel), List.mem_of_getElem? (i := 679) (by decide +kernel), List.mem_of_getElem? (i := 680) (by decide +kernel)⟩
theorem lw_p14 : lw_okq (⟨"QuakeRehearsal", "breakagesInThought", "(I)I"⟩, 11) := ⟨⟨by decide +kernel, by decide +kernel⟩, List.mem_of_getElem? (i := 33) (by decide +kernel), List.mem_of_getElem? (i := 700) (by decide +kernel), List.mem_of_getElem? (i := 701) (by decide +kernel)⟩
theorem lw_p15 : lw_okq (⟨"QuakeRehearsal", "isReachAlike", "()Z"⟩, 11) := ⟨⟨by decide +kernel, by decide +kernel⟩, List.mem_of_getElem? (i := 33) (by decide +kernel), List.mem_of_getElem? (i := 746) (by decide +kernel), List.mem_of_getElem? (i := 747) (by decide +kernel)⟩
def lw_privs_1 : List (MethodName × Nat) := [(⟨"QuakeRehearsal", "placed", "(III)I"⟩, 11), (⟨"QuakeRehearsal", "change", "(III)I"⟩, 11), (⟨"QuakeRehearsal", "tryOrder", "(III)I"⟩, 11), (⟨"QuakeRehearsal", "tryPlacing", "(III)I"⟩, 11), (⟨"QuakeRehearsal", "refuse", "(II)I"⟩, 11), (⟨"QuakeRehearsal", "answered", "(I)I"⟩, 11), (⟨"QuakeRehearsal", "tryTaking", "(I)I"⟩, 11), (⟨"QuakeRehearsal", "tryCueing", "(II)I"⟩, 11), (⟨"QuakeRehearsal", "trySetting", "(I)I"⟩, 11), (⟨"QuakeRehearsal", "tryAdding", "(I)I"⟩, 11), (⟨"java/lang/Throwable", "fillInStackTrace", "(I)Ljava/lang/Throwable;"⟩, 6), (⟨"QuakeRehearsal", "strengthTold", "(II)I"⟩, 11), (⟨"QuakeRehearsal", "propNumbered", "(I)LQuakeRehearsal$Prop;"⟩, 11), (⟨"QuakeRehearsal", "marksInThought", "(I)I"⟩, 11), (⟨"QuakeRehearsal", "breakagesInThought", "(I)I"⟩, 11), (⟨"QuakeRehearsal", "isReachAlike", "()Z"⟩, 11)]
theorem lw_r1 : ∀ q ∈ lw_privs_1, lw_okq q := List.forall_mem_cons.mpr ⟨lw_p0, List.forall_mem_cons.mpr ⟨lw_p1, List.forall_mem_cons.mpr ⟨lw_p2, List.forall_mem_cons.mpr ⟨lw_p3, List.forall_mem_cons.mpr ⟨lw_p4, List.forall_mem_cons.mpr ⟨lw_p5, List.forall_mem_cons.mpr ⟨lw_p6, List.forall_mem_cons.mpr ⟨lw_p7, List.forall_mem_cons.mpr ⟨lw_p8, List.forall_mem_cons.mpr ⟨lw_p9, List.forall_mem_cons.mpr ⟨lw_p10, List.forall_mem_cons.mpr ⟨lw_p11, List.forall_mem_cons.mpr ⟨lw_p12, List.forall_mem_cons.mpr ⟨lw_p13, List.forall_mem_cons.mpr ⟨lw_p14, List.forall_mem_cons.mpr ⟨lw_p15, fun _ h => absurd h List.not_mem_nil⟩⟩⟩⟩⟩⟩⟩⟩⟩⟩⟩⟩⟩⟩⟩⟩
theorem lw_p16 : lw_okq (⟨"QuakeRehearsal", "areBreakagesAlike", "()Z"⟩, 11) := ⟨⟨by decide +kernel, by decide +kernel⟩, List.mem_of_getElem? (i := 33) (by decide +kernel), List.mem_of_getElem? (i := 750) (by decide +kernel), List.mem_of_getElem? (i := 751) (by decide +kernel)⟩
theorem lw_p17 : lw_okq (⟨"QuakeRehearsal", "numberInOrder", "(II)I"⟩, 11) := ⟨⟨by decide +kernel, by decide +kernel⟩, List.mem_of_getElem? (i := 33) (by decide +kernel), List.mem_of_getElem? (i := 772) (by decide +kernel), List.mem_of_getElem? (i := 773) (by decide +kernel)⟩
def lw_privs_2 : List (MethodName × Nat) := [(⟨"QuakeRehearsal", "areBreakagesAlike", "()Z"⟩, 11), (⟨"QuakeRehearsal", "numberInOrder", "(II)I"⟩, 11)]
theorem lw_r2 : ∀ q ∈ lw_privs_2, lw_okq q := List.forall_mem_cons.mpr ⟨lw_p16, List.forall_mem_cons.mpr ⟨lw_p17, fun _ h => absurd h List.not_mem_nil⟩⟩
def lw_privs : List (MethodName × Nat) := lw_privs_1 ++ (lw_privs_2)
def lw_tbl : List Cond := k2_sels lw_privs ++ tables_1
theorem lw_privs_ok : ∀ q ∈ lw_privs, lw_okq q := by
  show ∀ q ∈ lw_privs_1 ++ (lw_privs_2), lw_okq q
  exact List.forall_mem_append.mpr ⟨lw_r1, lw_r2⟩
/-- the streams that the claim lets the run draw from -/
abbrev lw_cs : List Choice := [Jvm.Choice.named "NaN.bits"]
theorem lw_bits : nanBits ∈ lw_cs := by first | decide | exact List.mem_cons_self | simp [lw_cs, nanBits]
-- ===== end of PART A; then your names; then what follows =====
def RX0 : String := "QuakeRehearsal$Hall"
def TX0 : u_T := fun k => match k with
  | 0 => ("QuakeRehearsal$Hall", "props", "[LQuakeRehearsal$Prop;", true)
  | 1 => ("QuakeRehearsal$Hall", "nobody", "LQuakeRehearsal$Prop;", true)
  | 2 => ("QuakeRehearsal$Hall", "propCount", "I", false)
  | 3 => ("QuakeRehearsal$Hall", "planned", "[I", true)
  | 4 => ("QuakeRehearsal$Hall", "plannedCount", "I", false)
  | 5 => ("QuakeRehearsal$Hall", "strength", "I", false)
  | 6 => ("QuakeRehearsal$Hall", "shocks", "I", false)
  | 7 => ("QuakeRehearsal$Hall", "encores", "I", false)
  | 8 => ("QuakeRehearsal$Hall", "marks", "I", false)
  | 9 => ("QuakeRehearsal$Hall", "breakages", "I", false)
  | 10 => ("QuakeRehearsal$Hall", "hasCat", "[Z", true)
  | 11 => ("QuakeRehearsal$Hall", "reach", "[I", true)
  | _ => ("QuakeRehearsal$Hall", "hasBreakage", "[Z", true)
def tyX0 : Nat → FieldType := fun k => match k with
  | 0 => .array (.object "QuakeRehearsal$Prop")
  | 1 => .object "QuakeRehearsal$Prop"
  | 2 => .int
  | 3 => .array .int
  | 4 => .int
  | 5 => .int
  | 6 => .int
  | 7 => .int
  | 8 => .int
  | 9 => .int
  | 10 => .array .boolean
  | 11 => .array .int
  | _ => .array .boolean
abbrev wsX00 : List Cond := u_ws RX0 TX0 13
theorem nmX0 : ∀ a, a < 13 → ∀ b, b < 13 → a ≠ b → (TX0 a).2.1 ≠ (TX0 b).2.1 := by decide +kernel
theorem tyX0_ok : ∀ k, k < 13 → parseFieldDescriptor (TX0 k).2.2.1 = some (tyX0 k) := by decide +kernel
abbrev cX0_init : ByteArray := prog_2_method_1_code
def yX0_init : MethodName := ⟨RX0, "<init>", "()V"⟩
abbrev cX0_propAt : ByteArray := prog_2_method_2_code
def yX0_propAt : MethodName := ⟨RX0, "propAt", "(I)LQuakeRehearsal$Prop;"⟩
abbrev cX0_plannedAt : ByteArray := prog_2_method_3_code
def yX0_plannedAt : MethodName := ⟨RX0, "plannedAt", "(I)I"⟩
abbrev cX0_copyFrom : ByteArray := prog_2_method_4_code
def yX0_copyFrom : MethodName := ⟨RX0, "copyFrom", "(LQuakeRehearsal$Hall;)V"⟩
abbrev cX0_placeProp : ByteArray := prog_2_method_5_code
def yX0_placeProp : MethodName := ⟨RX0, "placeProp", "(III)I"⟩
abbrev cX0_removeProp : ByteArray := prog_2_method_6_code
def yX0_removeProp : MethodName := ⟨RX0, "removeProp", "(I)I"⟩
abbrev cX0_plan : ByteArray := prog_2_method_7_code
def yX0_plan : MethodName := ⟨RX0, "plan", "(I)I"⟩
abbrev cX0_countOf : ByteArray := prog_2_method_8_code
def yX0_countOf : MethodName := ⟨RX0, "countOf", "(I)I"⟩
abbrev cX0_countOn : ByteArray := prog_2_method_9_code
def yX0_countOn : MethodName := ⟨RX0, "countOn", "(II)I"⟩
abbrev cX0_countBroken : ByteArray := prog_2_method_10_code
def yX0_countBroken : MethodName := ⟨RX0, "countBroken", "()I"⟩
abbrev cX0_sumOfGrades : ByteArray := prog_2_method_11_code
def yX0_sumOfGrades : MethodName := ⟨RX0, "sumOfGrades", "()I"⟩
abbrev cX0_reachFloorByFloor : ByteArray := prog_2_method_12_code
def yX0_reachFloorByFloor : MethodName := ⟨RX0, "reachFloorByFloor", "(II)I"⟩
abbrev cX0_reachAgain : ByteArray := prog_2_method_13_code
def yX0_reachAgain : MethodName := ⟨RX0, "reachAgain", "(II)I"⟩
abbrev cX0_spread : ByteArray := prog_2_method_14_code
def yX0_spread : MethodName := ⟨RX0, "spread", "(I)V"⟩
abbrev cX0_findCats : ByteArray := prog_2_method_15_code
def yX0_findCats : MethodName := ⟨RX0, "findCats", "()V"⟩
abbrev cX0_reachOn : ByteArray := prog_2_method_16_code
def yX0_reachOn : MethodName := ⟨RX0, "reachOn", "(I)I"⟩
abbrev cX0_isFrightening : ByteArray := prog_2_method_17_code
def yX0_isFrightening : MethodName := ⟨RX0, "isFrightening", "(I)Z"⟩
abbrev cX0_noteBreakage : ByteArray := prog_2_method_18_code
def yX0_noteBreakage : MethodName := ⟨RX0, "noteBreakage", "(I)V"⟩
abbrev cX0_performShock : ByteArray := prog_2_method_19_code
def yX0_performShock : MethodName := ⟨RX0, "performShock", "(I)I"⟩
abbrev cX0_shakeCups : ByteArray := prog_2_method_20_code
def yX0_shakeCups : MethodName := ⟨RX0, "shakeCups", "()V"⟩
abbrev cX0_shakeLamps : ByteArray := prog_2_method_21_code
def yX0_shakeLamps : MethodName := ⟨RX0, "shakeLamps", "(I)V"⟩
abbrev cX0_askCats : ByteArray := prog_2_method_22_code
def yX0_askCats : MethodName := ⟨RX0, "askCats", "()I"⟩
abbrev cX0_performProgramme : ByteArray := prog_2_method_23_code
def yX0_performProgramme : MethodName := ⟨RX0, "performProgramme", "()I"⟩
abbrev cX0_calm : ByteArray := prog_2_method_24_code
def yX0_calm : MethodName := ⟨RX0, "calm", "()I"⟩
abbrev cX0_breakagesPropByProp : ByteArray := prog_2_method_25_code
def yX0_breakagesPropByProp : MethodName := ⟨RX0, "breakagesPropByProp", "(I)I"⟩
abbrev cX0_isDamageRight : ByteArray := prog_2_method_26_code
def yX0_isDamageRight : MethodName := ⟨RX0, "isDamageRight", "()Z"⟩
abbrev cX0_numberInOrder : ByteArray := prog_2_method_27_code
def yX0_numberInOrder : MethodName := ⟨RX0, "numberInOrder", "(II)I"⟩
abbrev cX0_countAhead : ByteArray := prog_2_method_28_code
def yX0_countAhead : MethodName := ⟨RX0, "countAhead", "(I)I"⟩
def RX1 : String := "QuakeRehearsal$History"
def TX1 : u_T := fun k => match k with
  | 0 => ("QuakeRehearsal$History", "kept", "[LQuakeRehearsal$Hall;", true)
  | 1 => ("QuakeRehearsal$History", "next", "I", false)
  | _ => ("QuakeRehearsal$History", "depth", "I", false)
def tyX1 : Nat → FieldType := fun k => match k with
  | 0 => .array (.object "QuakeRehearsal$Hall")
  | 1 => .int
  | _ => .int
abbrev wsX10 : List Cond := u_ws RX1 TX1 3
theorem nmX1 : ∀ a, a < 3 → ∀ b, b < 3 → a ≠ b → (TX1 a).2.1 ≠ (TX1 b).2.1 := by decide +kernel
theorem tyX1_ok : ∀ k, k < 3 → parseFieldDescriptor (TX1 k).2.2.1 = some (tyX1 k) := by decide +kernel
abbrev cX1_init : ByteArray := prog_3_method_1_code
def yX1_init : MethodName := ⟨RX1, "<init>", "()V"⟩
abbrev cX1_note : ByteArray := prog_3_method_2_code
def yX1_note : MethodName := ⟨RX1, "note", "(LQuakeRehearsal$Hall;)V"⟩
abbrev cX1_copyNoteTo : ByteArray := prog_3_method_3_code
def yX1_copyNoteTo : MethodName := ⟨RX1, "copyNoteTo", "(LQuakeRehearsal$Hall;)V"⟩
abbrev cX1_keepNote : ByteArray := prog_3_method_4_code
def yX1_keepNote : MethodName := ⟨RX1, "keepNote", "()V"⟩
abbrev cX1_stepBack : ByteArray := prog_3_method_5_code
def yX1_stepBack : MethodName := ⟨RX1, "stepBack", "(LQuakeRehearsal$Hall;)V"⟩
def RX2 : String := "QuakeRehearsal$Line"
def TX2 : u_T := fun k => match k with
  | 0 => ("QuakeRehearsal$Line", "signs", "[C", true)
  | _ => ("QuakeRehearsal$Line", "length", "I", false)
def tyX2 : Nat → FieldType := fun k => match k with
  | 0 => .array .char
  | _ => .int
abbrev wsX20 : List Cond := u_ws RX2 TX2 2
theorem nmX2 : ∀ a, a < 2 → ∀ b, b < 2 → a ≠ b → (TX2 a).2.1 ≠ (TX2 b).2.1 := by decide +kernel
theorem tyX2_ok : ∀ k, k < 2 → parseFieldDescriptor (TX2 k).2.2.1 = some (tyX2 k) := by decide +kernel
abbrev cX2_init : ByteArray := prog_4_method_1_code
def yX2_init : MethodName := ⟨RX2, "<init>", "()V"⟩
abbrev cX2_signAt : ByteArray := prog_4_method_2_code
def yX2_signAt : MethodName := ⟨RX2, "signAt", "(I)C"⟩
abbrev cX2_put : ByteArray := prog_4_method_3_code
def yX2_put : MethodName := ⟨RX2, "put", "(C)V"⟩
abbrev cX2_putNumber : ByteArray := prog_4_method_4_code
def yX2_putNumber : MethodName := ⟨RX2, "putNumber", "(I)V"⟩
abbrev cX2_writeProp : ByteArray := prog_4_method_5_code
def yX2_writeProp : MethodName := ⟨RX2, "writeProp", "(LQuakeRehearsal$Prop;)V"⟩
abbrev cX2_writeProgramme : ByteArray := prog_4_method_6_code
def yX2_writeProgramme : MethodName := ⟨RX2, "writeProgramme", "(LQuakeRehearsal$Hall;)V"⟩
def RX3 : String := "QuakeRehearsal$Prop"
def TX3 : u_T := fun k => match k with
  | 0 => ("QuakeRehearsal$Prop", "kind", "I", false)
  | 1 => ("QuakeRehearsal$Prop", "floor", "I", false)
  | 2 => ("QuakeRehearsal$Prop", "measure", "I", false)
  | 3 => ("QuakeRehearsal$Prop", "damage", "I", false)
  | 4 => ("QuakeRehearsal$Prop", "broken", "Z", false)
  | 5 => ("QuakeRehearsal$Prop", "cued", "I", false)
  | _ => ("QuakeRehearsal$Prop", "tally", "I", false)
def tyX3 : Nat → FieldType := fun k => match k with
  | 0 => .int
  | 1 => .int
  | 2 => .int
  | 3 => .int
  | 4 => .boolean
  | 5 => .int
  | _ => .int
abbrev wsX30 : List Cond := u_ws RX3 TX3 7
theorem nmX3 : ∀ a, a < 7 → ∀ b, b < 7 → a ≠ b → (TX3 a).2.1 ≠ (TX3 b).2.1 := by decide +kernel
theorem tyX3_ok : ∀ k, k < 7 → parseFieldDescriptor (TX3 k).2.2.1 = some (tyX3 k) := by decide +kernel
abbrev cX3_init : ByteArray := prog_5_method_1_code
def yX3_init : MethodName := ⟨RX3, "<init>", "()V"⟩
abbrev cX3_begin : ByteArray := prog_5_method_2_code
def yX3_begin : MethodName := ⟨RX3, "begin", "(III)V"⟩
abbrev cX3_copyFrom : ByteArray := prog_5_method_3_code
def yX3_copyFrom : MethodName := ⟨RX3, "copyFrom", "(LQuakeRehearsal$Prop;)V"⟩
abbrev cX3_shakeCup : ByteArray := prog_5_method_4_code
def yX3_shakeCup : MethodName := ⟨RX3, "shakeCup", "(I)Z"⟩
abbrev cX3_shakeLamp : ByteArray := prog_5_method_5_code
def yX3_shakeLamp : MethodName := ⟨RX3, "shakeLamp", "(II)Z"⟩
abbrev cX3_swingAfter : ByteArray := prog_5_method_6_code
def yX3_swingAfter : MethodName := ⟨RX3, "swingAfter", "(II)I"⟩
abbrev cX3_judge : ByteArray := prog_5_method_7_code
def yX3_judge : MethodName := ⟨RX3, "judge", "(IZ)I"⟩
abbrev cX3_wouldBreakBy : ByteArray := prog_5_method_8_code
def yX3_wouldBreakBy : MethodName := ⟨RX3, "wouldBreakBy", "(II)Z"⟩
abbrev cX3_isDamageRight : ByteArray := prog_5_method_9_code
def yX3_isDamageRight : MethodName := ⟨RX3, "isDamageRight", "()Z"⟩
abbrev cX3_orderTo : ByteArray := prog_5_method_10_code
def yX3_orderTo : MethodName := ⟨RX3, "orderTo", "(LQuakeRehearsal$Prop;)I"⟩
def RX4 : String := "QuakeRehearsal$Script"
def TX4 : u_T := fun k => match k with
  | 0 => ("QuakeRehearsal$Script", "signs", "[C", true)
  | 1 => ("QuakeRehearsal$Script", "length", "I", false)
  | 2 => ("QuakeRehearsal$Script", "words", "[I", true)
  | 3 => ("QuakeRehearsal$Script", "firsts", "[I", true)
  | 4 => ("QuakeRehearsal$Script", "seconds", "[I", true)
  | 5 => ("QuakeRehearsal$Script", "orderCount", "I", false)
  | _ => ("QuakeRehearsal$Script", "offset", "I", false)
def tyX4 : Nat → FieldType := fun k => match k with
  | 0 => .array .char
  | 1 => .int
  | 2 => .array .int
  | 3 => .array .int
  | 4 => .array .int
  | 5 => .int
  | _ => .int
abbrev wsX40 : List Cond := u_ws RX4 TX4 7
theorem nmX4 : ∀ a, a < 7 → ∀ b, b < 7 → a ≠ b → (TX4 a).2.1 ≠ (TX4 b).2.1 := by decide +kernel
theorem tyX4_ok : ∀ k, k < 7 → parseFieldDescriptor (TX4 k).2.2.1 = some (tyX4 k) := by decide +kernel
abbrev cX4_init : ByteArray := prog_6_method_1_code
def yX4_init : MethodName := ⟨RX4, "<init>", "()V"⟩
abbrev cX4_put : ByteArray := prog_6_method_2_code
def yX4_put : MethodName := ⟨RX4, "put", "(C)V"⟩
abbrev cX4_read : ByteArray := prog_6_method_3_code
def yX4_read : MethodName := ⟨RX4, "read", "()I"⟩
abbrev cX4_readOrder : ByteArray := prog_6_method_4_code
def yX4_readOrder : MethodName := ⟨RX4, "readOrder", "(I)Z"⟩
abbrev cX4_readWord : ByteArray := prog_6_method_5_code
def yX4_readWord : MethodName := ⟨RX4, "readWord", "()I"⟩
abbrev cX4_countAlike : ByteArray := prog_6_method_6_code
def yX4_countAlike : MethodName := ⟨RX4, "countAlike", "(Ljava/lang/String;)I"⟩
abbrev cX4_readNumber : ByteArray := prog_6_method_7_code
def yX4_readNumber : MethodName := ⟨RX4, "readNumber", "(I)I"⟩
abbrev cX4_readDigit : ByteArray := prog_6_method_8_code
def yX4_readDigit : MethodName := ⟨RX4, "readDigit", "()I"⟩
abbrev cX4_readSign : ByteArray := prog_6_method_9_code
def yX4_readSign : MethodName := ⟨RX4, "readSign", "(C)Z"⟩
abbrev cX4_isNext : ByteArray := prog_6_method_10_code
def yX4_isNext : MethodName := ⟨RX4, "isNext", "(IC)Z"⟩
abbrev cX4_wordAt : ByteArray := prog_6_method_11_code
def yX4_wordAt : MethodName := ⟨RX4, "wordAt", "(I)I"⟩
abbrev cX4_firstAt : ByteArray := prog_6_method_12_code
def yX4_firstAt : MethodName := ⟨RX4, "firstAt", "(I)I"⟩
abbrev cX4_secondAt : ByteArray := prog_6_method_13_code
def yX4_secondAt : MethodName := ⟨RX4, "secondAt", "(I)I"⟩
abbrev cX4_nameOf : ByteArray := prog_6_method_14_code
def yX4_nameOf : MethodName := ⟨RX4, "nameOf", "(I)Ljava/lang/String;"⟩
def RX5 : String := "QuakeRehearsal"
def TX5 : u_T := fun k => match k with
  | 0 => ("QuakeRehearsal", "hall", "LQuakeRehearsal$Hall;", true)
  | 1 => ("QuakeRehearsal", "thought", "LQuakeRehearsal$Hall;", true)
  | 2 => ("QuakeRehearsal", "snapshot", "LQuakeRehearsal$Hall;", true)
  | 3 => ("QuakeRehearsal", "history", "LQuakeRehearsal$History;", true)
  | 4 => ("QuakeRehearsal", "script", "LQuakeRehearsal$Script;", true)
  | 5 => ("QuakeRehearsal", "written", "LQuakeRehearsal$Line;", true)
  | 6 => ("QuakeRehearsal", "hasSnapshot", "Z", false)
  | 7 => ("QuakeRehearsal", "errorPlace", "I", false)
  | 8 => ("QuakeRehearsal", "reason", "I", false)
  | 9 => ("QuakeRehearsal", "detail", "I", false)
  | _ => ("QuakeRehearsal", "answer", "I", false)
def tyX5 : Nat → FieldType := fun k => match k with
  | 0 => .object "QuakeRehearsal$Hall"
  | 1 => .object "QuakeRehearsal$Hall"
  | 2 => .object "QuakeRehearsal$Hall"
  | 3 => .object "QuakeRehearsal$History"
  | 4 => .object "QuakeRehearsal$Script"
  | 5 => .object "QuakeRehearsal$Line"
  | 6 => .boolean
  | 7 => .int
  | 8 => .int
  | 9 => .int
  | _ => .int
abbrev wsX50 : List Cond := u_ws RX5 TX5 11
theorem nmX5 : ∀ a, a < 11 → ∀ b, b < 11 → a ≠ b → (TX5 a).2.1 ≠ (TX5 b).2.1 := by decide +kernel
theorem tyX5_ok : ∀ k, k < 11 → parseFieldDescriptor (TX5 k).2.2.1 = some (tyX5 k) := by decide +kernel
abbrev cX5_init : ByteArray := prog_1_method_1_code
def yX5_init : MethodName := ⟨RX5, "<init>", "()V"⟩
abbrev cX5_cup : ByteArray := prog_1_method_2_code
def yX5_cup : MethodName := ⟨RX5, "cup", "(II)I"⟩
abbrev cX5_lamp : ByteArray := prog_1_method_3_code
def yX5_lamp : MethodName := ⟨RX5, "lamp", "(II)I"⟩
abbrev cX5_cat : ByteArray := prog_1_method_4_code
def yX5_cat : MethodName := ⟨RX5, "cat", "(II)I"⟩
abbrev cX5_take : ByteArray := prog_1_method_5_code
def yX5_take : MethodName := ⟨RX5, "take", "(I)I"⟩
abbrev cX5_cue : ByteArray := prog_1_method_6_code
def yX5_cue : MethodName := ⟨RX5, "cue", "(II)I"⟩
abbrev cX5_set : ByteArray := prog_1_method_7_code
def yX5_set : MethodName := ⟨RX5, "set", "(I)I"⟩
abbrev cX5_shock : ByteArray := prog_1_method_8_code
def yX5_shock : MethodName := ⟨RX5, "shock", "()I"⟩
abbrev cX5_add : ByteArray := prog_1_method_9_code
def yX5_add : MethodName := ⟨RX5, "add", "(I)I"⟩
abbrev cX5_perform : ByteArray := prog_1_method_10_code
def yX5_perform : MethodName := ⟨RX5, "perform", "()I"⟩
abbrev cX5_quiet : ByteArray := prog_1_method_11_code
def yX5_quiet : MethodName := ⟨RX5, "quiet", "()I"⟩
abbrev cX5_propOf : ByteArray := prog_1_method_12_code
def yX5_propOf : MethodName := ⟨RX5, "propOf", "(II)I"⟩
abbrev cX5_programme : ByteArray := prog_1_method_13_code
def yX5_programme : MethodName := ⟨RX5, "programme", "(I)I"⟩
abbrev cX5_on : ByteArray := prog_1_method_14_code
def yX5_on : MethodName := ⟨RX5, "on", "(IIZ)I"⟩
abbrev cX5_wouldMark : ByteArray := prog_1_method_15_code
def yX5_wouldMark : MethodName := ⟨RX5, "wouldMark", "(I)I"⟩
abbrev cX5_wouldBreak : ByteArray := prog_1_method_16_code
def yX5_wouldBreak : MethodName := ⟨RX5, "wouldBreak", "(IZ)I"⟩
abbrev cX5_programmeBreaks : ByteArray := prog_1_method_17_code
def yX5_programmeBreaks : MethodName := ⟨RX5, "programmeBreaks", "()I"⟩
abbrev cX5_best : ByteArray := prog_1_method_18_code
def yX5_best : MethodName := ⟨RX5, "best", "()I"⟩
abbrev cX5_leastBreaking : ByteArray := prog_1_method_19_code
def yX5_leastBreaking : MethodName := ⟨RX5, "leastBreaking", "()I"⟩
abbrev cX5_shocksFor : ByteArray := prog_1_method_20_code
def yX5_shocksFor : MethodName := ⟨RX5, "shocksFor", "(I)I"⟩
abbrev cX5_isBroken : ByteArray := prog_1_method_21_code
def yX5_isBroken : MethodName := ⟨RX5, "isBroken", "(I)Z"⟩
abbrev cX5_cupAt : ByteArray := prog_1_method_22_code
def yX5_cupAt : MethodName := ⟨RX5, "cupAt", "(I)I"⟩
abbrev cX5_lampAt : ByteArray := prog_1_method_23_code
def yX5_lampAt : MethodName := ⟨RX5, "lampAt", "(I)I"⟩
abbrev cX5_catAt : ByteArray := prog_1_method_24_code
def yX5_catAt : MethodName := ⟨RX5, "catAt", "(I)I"⟩
abbrev cX5_onFloor : ByteArray := prog_1_method_25_code
def yX5_onFloor : MethodName := ⟨RX5, "onFloor", "(II)I"⟩
abbrev cX5_line : ByteArray := prog_1_method_26_code
def yX5_line : MethodName := ⟨RX5, "line", "(I)I"⟩
abbrev cX5_programmeLine : ByteArray := prog_1_method_27_code
def yX5_programmeLine : MethodName := ⟨RX5, "programmeLine", "()I"⟩
abbrev cX5_character : ByteArray := prog_1_method_28_code
def yX5_character : MethodName := ⟨RX5, "character", "(I)C"⟩
abbrev cX5_append : ByteArray := prog_1_method_29_code
def yX5_append : MethodName := ⟨RX5, "append", "(C)I"⟩
abbrev cX5_run : ByteArray := prog_1_method_30_code
def yX5_run : MethodName := ⟨RX5, "run", "()I"⟩
abbrev cX5_refusal : ByteArray := prog_1_method_32_code
def yX5_refusal : MethodName := ⟨RX5, "refusal", "(Z)I"⟩
abbrev cX5_account : ByteArray := prog_1_method_33_code
def yX5_account : MethodName := ⟨RX5, "account", "(I)I"⟩
abbrev cX5_isWell : ByteArray := prog_1_method_34_code
def yX5_isWell : MethodName := ⟨RX5, "isWell", "()Z"⟩
abbrev cX5_meanGrade : ByteArray := prog_1_method_35_code
def yX5_meanGrade : MethodName := ⟨RX5, "meanGrade", "()D"⟩
abbrev cX5_brokenShare : ByteArray := prog_1_method_36_code
def yX5_brokenShare : MethodName := ⟨RX5, "brokenShare", "()F"⟩
abbrev cX5_undo : ByteArray := prog_1_method_37_code
def yX5_undo : MethodName := ⟨RX5, "undo", "()I"⟩
abbrev cX5_isFloor : ByteArray := prog_1_method_40_code
def yX5_isFloor : MethodName := ⟨RX5, "isFloor", "(I)Z"⟩
abbrev cX5_isStrength : ByteArray := prog_1_method_41_code
def yX5_isStrength : MethodName := ⟨RX5, "isStrength", "(I)Z"⟩
abbrev cX5_requireStrength : ByteArray := prog_1_method_42_code
def yX5_requireStrength : MethodName := ⟨RX5, "requireStrength", "(I)V"⟩
abbrev cX5_propNumbered : ByteArray := prog_1_method_43_code
def yX5_propNumbered : MethodName := ⟨RX5, "propNumbered", "(I)LQuakeRehearsal$Prop;"⟩
abbrev cX5_numberInOrder : ByteArray := prog_1_method_44_code
def yX5_numberInOrder : MethodName := ⟨RX5, "numberInOrder", "(II)I"⟩
abbrev cX5_placed : ByteArray := prog_1_method_45_code
def yX5_placed : MethodName := ⟨RX5, "placed", "(III)I"⟩
abbrev cX5_strengthTold : ByteArray := prog_1_method_46_code
def yX5_strengthTold : MethodName := ⟨RX5, "strengthTold", "(II)I"⟩
abbrev cX5_change : ByteArray := prog_1_method_47_code
def yX5_change : MethodName := ⟨RX5, "change", "(III)I"⟩
abbrev cX5_tryOrder : ByteArray := prog_1_method_48_code
def yX5_tryOrder : MethodName := ⟨RX5, "tryOrder", "(III)I"⟩
abbrev cX5_tryPlacing : ByteArray := prog_1_method_49_code
def yX5_tryPlacing : MethodName := ⟨RX5, "tryPlacing", "(III)I"⟩
abbrev cX5_tryTaking : ByteArray := prog_1_method_50_code
def yX5_tryTaking : MethodName := ⟨RX5, "tryTaking", "(I)I"⟩
abbrev cX5_tryCueing : ByteArray := prog_1_method_51_code
def yX5_tryCueing : MethodName := ⟨RX5, "tryCueing", "(II)I"⟩
abbrev cX5_trySetting : ByteArray := prog_1_method_52_code
def yX5_trySetting : MethodName := ⟨RX5, "trySetting", "(I)I"⟩
abbrev cX5_tryAdding : ByteArray := prog_1_method_53_code
def yX5_tryAdding : MethodName := ⟨RX5, "tryAdding", "(I)I"⟩
abbrev cX5_answered : ByteArray := prog_1_method_54_code
def yX5_answered : MethodName := ⟨RX5, "answered", "(I)I"⟩
abbrev cX5_refuse : ByteArray := prog_1_method_55_code
def yX5_refuse : MethodName := ⟨RX5, "refuse", "(II)I"⟩
abbrev cX5_marksInThought : ByteArray := prog_1_method_56_code
def yX5_marksInThought : MethodName := ⟨RX5, "marksInThought", "(I)I"⟩
abbrev cX5_breakagesInThought : ByteArray := prog_1_method_57_code
def yX5_breakagesInThought : MethodName := ⟨RX5, "breakagesInThought", "(I)I"⟩
abbrev cX5_isReachAlike : ByteArray := prog_1_method_58_code
def yX5_isReachAlike : MethodName := ⟨RX5, "isReachAlike", "()Z"⟩
abbrev cX5_areBreakagesAlike : ByteArray := prog_1_method_59_code
def yX5_areBreakagesAlike : MethodName := ⟨RX5, "areBreakagesAlike", "()Z"⟩
def RX6 : String := "QuakeRehearsalModel"
def TX6 : u_T := fun k => match k with
  | _ => ("", "", "", false)
def tyX6 : Nat → FieldType := fun k => match k with
  | _ => .int
abbrev wsX60 : List Cond := u_ws RX6 TX6 0
theorem nmX6 : ∀ a, a < 0 → ∀ b, b < 0 → a ≠ b → (TX6 a).2.1 ≠ (TX6 b).2.1 := by decide +kernel
theorem tyX6_ok : ∀ k, k < 0 → parseFieldDescriptor (TX6 k).2.2.1 = some (tyX6 k) := by decide +kernel
def RJx145de : String := "java/io/Serializable"
def TJx145de : u_T := fun k => match k with
  | _ => ("", "", "", false)
def tyJx145de : Nat → FieldType := fun k => match k with
  | _ => .int
theorem nmJx145de : ∀ a, a < 0 → ∀ b, b < 0 → a ≠ b → (TJx145de a).2.1 ≠ (TJx145de b).2.1 := by decide +kernel
theorem tyJx145de_ok : ∀ k, k < 0 → parseFieldDescriptor (TJx145de k).2.2.1 = some (tyJx145de k) := by decide +kernel
def RJ5 : String := "java/lang/AbstractStringBuilder"
def TJ5 : u_T := fun k => match k with
  | _ => ("", "", "", false)
def tyJ5 : Nat → FieldType := fun k => match k with
  | _ => .int
abbrev wsJ50 : List Cond := u_ws RJ5 TJ5 0
theorem nmJ5 : ∀ a, a < 0 → ∀ b, b < 0 → a ≠ b → (TJ5 a).2.1 ≠ (TJ5 b).2.1 := by decide +kernel
theorem tyJ5_ok : ∀ k, k < 0 → parseFieldDescriptor (TJ5 k).2.2.1 = some (tyJ5 k) := by decide +kernel
abbrev cJ5_init_d00df : ByteArray := prog_10_method_2_code
def yJ5_init_d00df : MethodName := ⟨RJ5, "<init>", "(I)V"⟩
abbrev cJ5_length_8abf5 : ByteArray := prog_10_method_6_code
def yJ5_length_8abf5 : MethodName := ⟨RJ5, "length", "()I"⟩
abbrev cJ5_ensureCapacityInternal_d00df : ByteArray := prog_10_method_9_code
def yJ5_ensureCapacityInternal_d00df : MethodName := ⟨RJ5, "ensureCapacityInternal", "(I)V"⟩
abbrev cJ5_newCapacity_0f7a4 : ByteArray := prog_10_method_10_code
def yJ5_newCapacity_0f7a4 : MethodName := ⟨RJ5, "newCapacity", "(I)I"⟩
abbrev cJ5_inflate_da8c8 : ByteArray := prog_10_method_11_code
def yJ5_inflate_da8c8 : MethodName := ⟨RJ5, "inflate", "()V"⟩
abbrev cJ5_append_cf1ce : ByteArray := prog_10_method_22_code
def yJ5_append_cf1ce : MethodName := ⟨RJ5, "append", "(Ljava/lang/String;)Ljava/lang/AbstractStringBuilder;"⟩
abbrev cJ5_appendNull_278bc : ByteArray := prog_10_method_26_code
def yJ5_appendNull_278bc : MethodName := ⟨RJ5, "appendNull", "()Ljava/lang/AbstractStringBuilder;"⟩
abbrev cJ5_append_3fe6f : ByteArray := prog_10_method_31_code
def yJ5_append_3fe6f : MethodName := ⟨RJ5, "append", "(C)Ljava/lang/AbstractStringBuilder;"⟩
abbrev cJ5_append_c97b9 : ByteArray := prog_10_method_32_code
def yJ5_append_c97b9 : MethodName := ⟨RJ5, "append", "(I)Ljava/lang/AbstractStringBuilder;"⟩
abbrev cJ5_getValue_6d5f1 : ByteArray := prog_10_method_64_code
def yJ5_getValue_6d5f1 : MethodName := ⟨RJ5, "getValue", "()[B"⟩
abbrev cJ5_isLatin1_aae02 : ByteArray := prog_10_method_68_code
def yJ5_isLatin1_aae02 : MethodName := ⟨RJ5, "isLatin1", "()Z"⟩
abbrev cJ5_inflateIfNeededFor_a7421 : ByteArray := prog_10_method_71_code
def yJ5_inflateIfNeededFor_a7421 : MethodName := ⟨RJ5, "inflateIfNeededFor", "(Ljava/lang/String;)V"⟩
abbrev cJ5_putStringAt_47b60 : ByteArray := prog_10_method_73_code
def yJ5_putStringAt_47b60 : MethodName := ⟨RJ5, "putStringAt", "(ILjava/lang/String;)V"⟩
def RJx2cfe8 : String := "java/lang/Appendable"
def TJx2cfe8 : u_T := fun k => match k with
  | _ => ("", "", "", false)
def tyJx2cfe8 : Nat → FieldType := fun k => match k with
  | _ => .int
theorem nmJx2cfe8 : ∀ a, a < 0 → ∀ b, b < 0 → a ≠ b → (TJx2cfe8 a).2.1 ≠ (TJx2cfe8 b).2.1 := by decide +kernel
theorem tyJx2cfe8_ok : ∀ k, k < 0 → parseFieldDescriptor (TJx2cfe8 k).2.2.1 = some (tyJx2cfe8 k) := by decide +kernel
def RJx00060 : String := "java/lang/ArrayIndexOutOfBoundsException"
def TJx00060 : u_T := fun k => match k with
  | 0 => ("java/lang/Throwable", "backtrace", "Ljava/lang/Object;", false)
  | 1 => ("java/lang/Throwable", "detailMessage", "Ljava/lang/String;", false)
  | 2 => ("java/lang/Throwable", "cause", "Ljava/lang/Throwable;", false)
  | 3 => ("java/lang/Throwable", "stackTrace", "[Ljava/lang/StackTraceElement;", false)
  | 4 => ("java/lang/Throwable", "depth", "I", false)
  | _ => ("java/lang/Throwable", "suppressedExceptions", "Ljava/util/List;", false)
def tyJx00060 : Nat → FieldType := fun k => match k with
  | 0 => .object "java/lang/Object"
  | 1 => .object "java/lang/String"
  | 2 => .object "java/lang/Throwable"
  | 3 => .array (.object "java/lang/StackTraceElement")
  | 4 => .int
  | _ => .object "java/util/List"
abbrev wsJx000600 : List Cond := u_ws RJx00060 TJx00060 6
theorem nmJx00060 : ∀ a, a < 6 → ∀ b, b < 6 → a ≠ b → (TJx00060 a).2.1 ≠ (TJx00060 b).2.1 := by decide +kernel
theorem tyJx00060_ok : ∀ k, k < 6 → parseFieldDescriptor (TJx00060 k).2.2.1 = some (tyJx00060 k) := by decide +kernel
abbrev cJx00060_init_a7421 : ByteArray := prog_13_method_2_code
def yJx00060_init_a7421 : MethodName := ⟨RJx00060, "<init>", "(Ljava/lang/String;)V"⟩
def RJx9f9b0 : String := "java/lang/CharSequence"
def TJx9f9b0 : u_T := fun k => match k with
  | _ => ("", "", "", false)
def tyJx9f9b0 : Nat → FieldType := fun k => match k with
  | _ => .int
theorem nmJx9f9b0 : ∀ a, a < 0 → ∀ b, b < 0 → a ≠ b → (TJx9f9b0 a).2.1 ≠ (TJx9f9b0 b).2.1 := by decide +kernel
theorem tyJx9f9b0_ok : ∀ k, k < 0 → parseFieldDescriptor (TJx9f9b0 k).2.2.1 = some (tyJx9f9b0 k) := by decide +kernel
def RJx8e188 : String := "java/lang/Cloneable"
def TJx8e188 : u_T := fun k => match k with
  | _ => ("", "", "", false)
def tyJx8e188 : Nat → FieldType := fun k => match k with
  | _ => .int
theorem nmJx8e188 : ∀ a, a < 0 → ∀ b, b < 0 → a ≠ b → (TJx8e188 a).2.1 ≠ (TJx8e188 b).2.1 := by decide +kernel
theorem tyJx8e188_ok : ∀ k, k < 0 → parseFieldDescriptor (TJx8e188 k).2.2.1 = some (tyJx8e188 k) := by decide +kernel
def RJxb160c : String := "java/lang/Comparable"
def TJxb160c : u_T := fun k => match k with
  | _ => ("", "", "", false)
def tyJxb160c : Nat → FieldType := fun k => match k with
  | _ => .int
theorem nmJxb160c : ∀ a, a < 0 → ∀ b, b < 0 → a ≠ b → (TJxb160c a).2.1 ≠ (TJxb160c b).2.1 := by decide +kernel
theorem tyJxb160c_ok : ∀ k, k < 0 → parseFieldDescriptor (TJxb160c k).2.2.1 = some (tyJxb160c k) := by decide +kernel
def RJ6 : String := "java/lang/Integer"
def TJ6 : u_T := fun k => match k with
  | _ => ("", "", "", false)
def tyJ6 : Nat → FieldType := fun k => match k with
  | _ => .int
abbrev wsJ60 : List Cond := u_ws RJ6 TJ6 0
theorem nmJ6 : ∀ a, a < 0 → ∀ b, b < 0 → a ≠ b → (TJ6 a).2.1 ≠ (TJ6 b).2.1 := by decide +kernel
theorem tyJ6_ok : ∀ k, k < 0 → parseFieldDescriptor (TJ6 k).2.2.1 = some (tyJ6 k) := by decide +kernel
abbrev cJ6_getChars_ba4f3 : ByteArray := prog_21_method_12_code
def yJ6_getChars_ba4f3 : MethodName := ⟨RJ6, "getChars", "(II[B)I"⟩
abbrev cJ6_stringSize_0f7a4 : ByteArray := prog_21_method_13_code
def yJ6_stringSize_0f7a4 : MethodName := ⟨RJ6, "stringSize", "(I)I"⟩
abbrev cJ6_compare_7cf53 : ByteArray := prog_21_method_40_code
def yJ6_compare_7cf53 : MethodName := ⟨RJ6, "compare", "(II)I"⟩
def RJ9 : String := "java/lang/Math"
def TJ9 : u_T := fun k => match k with
  | _ => ("", "", "", false)
def tyJ9 : Nat → FieldType := fun k => match k with
  | _ => .int
abbrev wsJ90 : List Cond := u_ws RJ9 TJ9 0
theorem nmJ9 : ∀ a, a < 0 → ∀ b, b < 0 → a ≠ b → (TJ9 a).2.1 ≠ (TJ9 b).2.1 := by decide +kernel
theorem tyJ9_ok : ∀ k, k < 0 → parseFieldDescriptor (TJ9 k).2.2.1 = some (tyJ9 k) := by decide +kernel
abbrev cJ9_abs_0f7a4 : ByteArray := prog_22_method_59_code
def yJ9_abs_0f7a4 : MethodName := ⟨RJ9, "abs", "(I)I"⟩
abbrev cJ9_max_7cf53 : ByteArray := prog_22_method_65_code
def yJ9_max_7cf53 : MethodName := ⟨RJ9, "max", "(II)I"⟩
abbrev cJ9_min_7cf53 : ByteArray := prog_22_method_69_code
def yJ9_min_7cf53 : MethodName := ⟨RJ9, "min", "(II)I"⟩
def RJxd2413 : String := "java/lang/Number"
def TJxd2413 : u_T := fun k => match k with
  | _ => ("", "", "", false)
def tyJxd2413 : Nat → FieldType := fun k => match k with
  | _ => .int
theorem nmJxd2413 : ∀ a, a < 0 → ∀ b, b < 0 → a ≠ b → (TJxd2413 a).2.1 ≠ (TJxd2413 b).2.1 := by decide +kernel
theorem tyJxd2413_ok : ∀ k, k < 0 → parseFieldDescriptor (TJxd2413 k).2.2.1 = some (tyJxd2413 k) := by decide +kernel
def RJ0 : String := "java/lang/String"
def TJ0 : u_T := fun k => match k with
  | 0 => ("java/lang/String", "value", "[B", true)
  | 1 => ("java/lang/String", "coder", "B", true)
  | 2 => ("java/lang/String", "hash", "I", false)
  | _ => ("java/lang/String", "hashIsZero", "Z", false)
def tyJ0 : Nat → FieldType := fun k => match k with
  | 0 => .array .byte
  | 1 => .byte
  | 2 => .int
  | _ => .boolean
abbrev wsJ00 : List Cond := u_ws RJ0 TJ0 4
theorem nmJ0 : ∀ a, a < 4 → ∀ b, b < 4 → a ≠ b → (TJ0 a).2.1 ≠ (TJ0 b).2.1 := by decide +kernel
theorem tyJ0_ok : ∀ k, k < 4 → parseFieldDescriptor (TJ0 k).2.2.1 = some (tyJ0 k) := by decide +kernel
abbrev cJ0_init_81219 : ByteArray := prog_25_method_53_code
def yJ0_init_81219 : MethodName := ⟨RJ0, "<init>", "(Ljava/lang/StringBuilder;)V"⟩
abbrev cJ0_length_8abf5 : ByteArray := prog_25_method_54_code
def yJ0_length_8abf5 : MethodName := ⟨RJ0, "length", "()I"⟩
abbrev cJ0_charAt_5068e : ByteArray := prog_25_method_56_code
def yJ0_charAt_5068e : MethodName := ⟨RJ0, "charAt", "(I)C"⟩
abbrev cJ0_getBytes_840e7 : ByteArray := prog_25_method_147_code
def yJ0_getBytes_840e7 : MethodName := ⟨RJ0, "getBytes", "([BIB)V"⟩
abbrev cJ0_init_db425 : ByteArray := prog_25_method_150_code
def yJ0_init_db425 : MethodName := ⟨RJ0, "<init>", "(Ljava/lang/AbstractStringBuilder;Ljava/lang/Void;)V"⟩
abbrev cJ0_coder_7d493 : ByteArray := prog_25_method_152_code
def yJ0_coder_7d493 : MethodName := ⟨RJ0, "coder", "()B"⟩
abbrev cJ0_isLatin1_aae02 : ByteArray := prog_25_method_154_code
def yJ0_isLatin1_aae02 : MethodName := ⟨RJ0, "isLatin1", "()Z"⟩
abbrev cJ0_checkIndex_df160 : ByteArray := prog_25_method_155_code
def yJ0_checkIndex_df160 : MethodName := ⟨RJ0, "checkIndex", "(II)V"⟩
abbrev cJ0_checkBoundsOffCount_cabcc : ByteArray := prog_25_method_157_code
def yJ0_checkBoundsOffCount_cabcc : MethodName := ⟨RJ0, "checkBoundsOffCount", "(III)I"⟩
abbrev cJ0_checkBoundsBeginEnd_23922 : ByteArray := prog_25_method_158_code
def yJ0_checkBoundsBeginEnd_23922 : MethodName := ⟨RJ0, "checkBoundsBeginEnd", "(III)V"⟩
def RJ4 : String := "java/lang/StringBuilder"
def TJ4 : u_T := fun k => match k with
  | 0 => ("java/lang/AbstractStringBuilder", "value", "[B", false)
  | 1 => ("java/lang/AbstractStringBuilder", "coder", "B", false)
  | 2 => ("java/lang/AbstractStringBuilder", "maybeLatin1", "Z", false)
  | _ => ("java/lang/AbstractStringBuilder", "count", "I", false)
def tyJ4 : Nat → FieldType := fun k => match k with
  | 0 => .array .byte
  | 1 => .byte
  | 2 => .boolean
  | _ => .int
abbrev wsJ40 : List Cond := u_ws RJ4 TJ4 4
theorem nmJ4 : ∀ a, a < 4 → ∀ b, b < 4 → a ≠ b → (TJ4 a).2.1 ≠ (TJ4 b).2.1 := by decide +kernel
theorem tyJ4_ok : ∀ k, k < 4 → parseFieldDescriptor (TJ4 k).2.2.1 = some (tyJ4 k) := by decide +kernel
abbrev cJ4_init_da8c8 : ByteArray := prog_26_method_1_code
def yJ4_init_da8c8 : MethodName := ⟨RJ4, "<init>", "()V"⟩
abbrev cJ4_append_15ec4 : ByteArray := prog_26_method_7_code
def yJ4_append_15ec4 : MethodName := ⟨RJ4, "append", "(Ljava/lang/String;)Ljava/lang/StringBuilder;"⟩
abbrev cJ4_append_cf468 : ByteArray := prog_26_method_14_code
def yJ4_append_cf468 : MethodName := ⟨RJ4, "append", "(C)Ljava/lang/StringBuilder;"⟩
abbrev cJ4_append_bf812 : ByteArray := prog_26_method_15_code
def yJ4_append_bf812 : MethodName := ⟨RJ4, "append", "(I)Ljava/lang/StringBuilder;"⟩
abbrev cJ4_toString_0e30d : ByteArray := prog_26_method_42_code
def yJ4_toString_0e30d : MethodName := ⟨RJ4, "toString", "()Ljava/lang/String;"⟩
abbrev cJ4_length_8abf5 : ByteArray := prog_26_method_93_code
def yJ4_length_8abf5 : MethodName := ⟨RJ4, "length", "()I"⟩
def RJ1 : String := "java/lang/StringLatin1"
def TJ1 : u_T := fun k => match k with
  | _ => ("", "", "", false)
def tyJ1 : Nat → FieldType := fun k => match k with
  | _ => .int
abbrev wsJ10 : List Cond := u_ws RJ1 TJ1 0
theorem nmJ1 : ∀ a, a < 0 → ∀ b, b < 0 → a ≠ b → (TJ1 a).2.1 ≠ (TJ1 b).2.1 := by decide +kernel
theorem tyJ1_ok : ∀ k, k < 0 → parseFieldDescriptor (TJ1 k).2.2.1 = some (tyJ1 k) := by decide +kernel
abbrev cJ1_charAt_3b067 : ByteArray := prog_27_method_2_code
def yJ1_charAt_3b067 : MethodName := ⟨RJ1, "charAt", "([BI)C"⟩
abbrev cJ1_canEncode_fc78d : ByteArray := prog_27_method_3_code
def yJ1_canEncode_fc78d : MethodName := ⟨RJ1, "canEncode", "(C)Z"⟩
abbrev cJ1_inflate_0e8fd : ByteArray := prog_27_method_50_code
def yJ1_inflate_0e8fd : MethodName := ⟨RJ1, "inflate", "([BI[BII)V"⟩
def RJ2 : String := "java/lang/StringUTF16"
def TJ2 : u_T := fun k => match k with
  | _ => ("", "", "", false)
def tyJ2 : Nat → FieldType := fun k => match k with
  | _ => .int
abbrev wsJ20 : List Cond := u_ws RJ2 TJ2 0
theorem nmJ2 : ∀ a, a < 0 → ∀ b, b < 0 → a ≠ b → (TJ2 a).2.1 ≠ (TJ2 b).2.1 := by decide +kernel
theorem tyJ2_ok : ∀ k, k < 0 → parseFieldDescriptor (TJ2 k).2.2.1 = some (tyJ2 k) := by decide +kernel
abbrev cJ2_newBytesFor_77867 : ByteArray := prog_28_method_2_code
def yJ2_newBytesFor_77867 : MethodName := ⟨RJ2, "newBytesFor", "(I)[B"⟩
abbrev cJ2_newBytesLength_0f7a4 : ByteArray := prog_28_method_3_code
def yJ2_newBytesLength_0f7a4 : MethodName := ⟨RJ2, "newBytesLength", "(I)I"⟩
abbrev cJ2_putChar_b72d1 : ByteArray := prog_28_method_4_code
def yJ2_putChar_b72d1 : MethodName := ⟨RJ2, "putChar", "([BII)V"⟩
abbrev cJ2_getChar_3b067 : ByteArray := prog_28_method_5_code
def yJ2_getChar_3b067 : MethodName := ⟨RJ2, "getChar", "([BI)C"⟩
abbrev cJ2_length_9d52b : ByteArray := prog_28_method_6_code
def yJ2_length_9d52b : MethodName := ⟨RJ2, "length", "([B)I"⟩
abbrev cJ2_coderFromArrayLen_85cad : ByteArray := prog_28_method_15_code
def yJ2_coderFromArrayLen_85cad : MethodName := ⟨RJ2, "coderFromArrayLen", "([BI)B"⟩
abbrev cJ2_compress_39247 : ByteArray := prog_28_method_17_code
def yJ2_compress_39247 : MethodName := ⟨RJ2, "compress", "([BII)[B"⟩
abbrev cJ2_compress_5af95 : ByteArray := prog_28_method_22_code
def yJ2_compress_5af95 : MethodName := ⟨RJ2, "compress", "([BI[BII)I"⟩
abbrev cJ2_putCharSB_b72d1 : ByteArray := prog_28_method_71_code
def yJ2_putCharSB_b72d1 : MethodName := ⟨RJ2, "putCharSB", "([BII)V"⟩
abbrev cJ2_getChars_46870 : ByteArray := prog_28_method_77_code
def yJ2_getChars_46870 : MethodName := ⟨RJ2, "getChars", "(III[B)I"⟩
abbrev cJ2_putCharsAt_cd4e5 : ByteArray := prog_28_method_81_code
def yJ2_putCharsAt_cd4e5 : MethodName := ⟨RJ2, "putCharsAt", "([BICCCC)I"⟩
abbrev cJ2_charAt_3b067 : ByteArray := prog_28_method_83_code
def yJ2_charAt_3b067 : MethodName := ⟨RJ2, "charAt", "([BI)C"⟩
abbrev cJ2_inflate_0e8fd : ByteArray := prog_28_method_86_code
def yJ2_inflate_0e8fd : MethodName := ⟨RJ2, "inflate", "([BI[BII)V"⟩
abbrev cJ2_getChars_ba4f3 : ByteArray := prog_28_method_89_code
def yJ2_getChars_ba4f3 : MethodName := ⟨RJ2, "getChars", "(II[B)I"⟩
abbrev cJ2_checkIndex_2214a : ByteArray := prog_28_method_91_code
def yJ2_checkIndex_2214a : MethodName := ⟨RJ2, "checkIndex", "(I[B)V"⟩
abbrev cJ2_checkBoundsBeginEnd_d044e : ByteArray := prog_28_method_93_code
def yJ2_checkBoundsBeginEnd_d044e : MethodName := ⟨RJ2, "checkBoundsBeginEnd", "(II[B)V"⟩
abbrev cJ2_checkBoundsOffCount_d044e : ByteArray := prog_28_method_94_code
def yJ2_checkBoundsOffCount_d044e : MethodName := ⟨RJ2, "checkBoundsOffCount", "(II[B)V"⟩
def RJ10 : String := "java/lang/System"
def TJ10 : u_T := fun k => match k with
  | _ => ("", "", "", false)
def tyJ10 : Nat → FieldType := fun k => match k with
  | _ => .int
abbrev wsJ100 : List Cond := u_ws RJ10 TJ10 0
theorem nmJ10 : ∀ a, a < 0 → ∀ b, b < 0 → a ≠ b → (TJ10 a).2.1 ≠ (TJ10 b).2.1 := by decide +kernel
theorem tyJ10_ok : ∀ k, k < 0 → parseFieldDescriptor (TJ10 k).2.2.1 = some (tyJ10 k) := by decide +kernel
def RJxfd54e : String := "java/lang/constant/Constable"
def TJxfd54e : u_T := fun k => match k with
  | _ => ("", "", "", false)
def tyJxfd54e : Nat → FieldType := fun k => match k with
  | _ => .int
theorem nmJxfd54e : ∀ a, a < 0 → ∀ b, b < 0 → a ≠ b → (TJxfd54e a).2.1 ≠ (TJxfd54e b).2.1 := by decide +kernel
theorem tyJxfd54e_ok : ∀ k, k < 0 → parseFieldDescriptor (TJxfd54e k).2.2.1 = some (tyJxfd54e k) := by decide +kernel
def RJx3cf43 : String := "java/lang/constant/ConstantDesc"
def TJx3cf43 : u_T := fun k => match k with
  | _ => ("", "", "", false)
def tyJx3cf43 : Nat → FieldType := fun k => match k with
  | _ => .int
theorem nmJx3cf43 : ∀ a, a < 0 → ∀ b, b < 0 → a ≠ b → (TJx3cf43 a).2.1 ≠ (TJx3cf43 b).2.1 := by decide +kernel
theorem tyJx3cf43_ok : ∀ k, k < 0 → parseFieldDescriptor (TJx3cf43 k).2.2.1 = some (tyJx3cf43 k) := by decide +kernel
def RJ7 : String := "java/util/Arrays"
def TJ7 : u_T := fun k => match k with
  | _ => ("", "", "", false)
def tyJ7 : Nat → FieldType := fun k => match k with
  | _ => .int
abbrev wsJ70 : List Cond := u_ws RJ7 TJ7 0
theorem nmJ7 : ∀ a, a < 0 → ∀ b, b < 0 → a ≠ b → (TJ7 a).2.1 ≠ (TJ7 b).2.1 := by decide +kernel
theorem tyJ7_ok : ∀ k, k < 0 → parseFieldDescriptor (TJ7 k).2.2.1 = some (tyJ7 k) := by decide +kernel
abbrev cJ7_copyOf_9075b : ByteArray := prog_34_method_121_code
def yJ7_copyOf_9075b : MethodName := ⟨RJ7, "copyOf", "([BI)[B"⟩
abbrev cJ7_checkLength_df160 : ByteArray := prog_34_method_131_code
def yJ7_checkLength_df160 : MethodName := ⟨RJ7, "checkLength", "(II)V"⟩
abbrev cJ7_copyOfRange_39247 : ByteArray := prog_34_method_132_code
def yJ7_copyOfRange_39247 : MethodName := ⟨RJ7, "copyOfRange", "([BII)[B"⟩
abbrev cJ7_copyOfRangeByte_39247 : ByteArray := prog_34_method_133_code
def yJ7_copyOfRangeByte_39247 : MethodName := ⟨RJ7, "copyOfRangeByte", "([BII)[B"⟩
def RJ8 : String := "jdk/internal/util/ArraysSupport"
def TJ8 : u_T := fun k => match k with
  | _ => ("", "", "", false)
def tyJ8 : Nat → FieldType := fun k => match k with
  | _ => .int
abbrev wsJ80 : List Cond := u_ws RJ8 TJ8 0
theorem nmJ8 : ∀ a, a < 0 → ∀ b, b < 0 → a ≠ b → (TJ8 a).2.1 ≠ (TJ8 b).2.1 := by decide +kernel
theorem tyJ8_ok : ∀ k, k < 0 → parseFieldDescriptor (TJ8 k).2.2.1 = some (tyJ8 k) := by decide +kernel
abbrev cJ8_newLength_cabcc : ByteArray := prog_36_method_27_code
def yJ8_newLength_cabcc : MethodName := ⟨RJ8, "newLength", "(III)I"⟩
abbrev cJ8_hugeLength_7cf53 : ByteArray := prog_36_method_28_code
def yJ8_hugeLength_7cf53 : MethodName := ⟨RJ8, "hugeLength", "(II)I"⟩
def RJ3 : String := "jdk/internal/util/Preconditions"
def TJ3 : u_T := fun k => match k with
  | _ => ("", "", "", false)
def tyJ3 : Nat → FieldType := fun k => match k with
  | _ => .int
abbrev wsJ30 : List Cond := u_ws RJ3 TJ3 0
theorem nmJ3 : ∀ a, a < 0 → ∀ b, b < 0 → a ≠ b → (TJ3 a).2.1 ≠ (TJ3 b).2.1 := by decide +kernel
theorem tyJ3_ok : ∀ k, k < 0 → parseFieldDescriptor (TJ3 k).2.2.1 = some (tyJ3 k) := by decide +kernel
abbrev cJ3_checkIndex_8e157 : ByteArray := prog_37_method_11_code
def yJ3_checkIndex_8e157 : MethodName := ⟨RJ3, "checkIndex", "(IILjava/util/function/BiFunction;)I"⟩
abbrev cJ3_checkFromToIndex_8c36e : ByteArray := prog_37_method_12_code
def yJ3_checkFromToIndex_8c36e : MethodName := ⟨RJ3, "checkFromToIndex", "(IIILjava/util/function/BiFunction;)I"⟩
abbrev cJ3_checkFromIndexSize_8c36e : ByteArray := prog_37_method_13_code
def yJ3_checkFromIndexSize_8c36e : MethodName := ⟨RJ3, "checkFromIndexSize", "(IIILjava/util/function/BiFunction;)I"⟩
def RL : String := "QuakeRehearsalLaw"
abbrev cL_cell : ByteArray := method_2_code
def yL_cell : MethodName := ⟨RL, "cell", "([II)I"⟩
abbrev cL_cup : ByteArray := method_3_code
def yL_cup : MethodName := ⟨RL, "cup", "(LQuakeRehearsal;II)I"⟩
abbrev cL_lamp : ByteArray := method_4_code
def yL_lamp : MethodName := ⟨RL, "lamp", "(LQuakeRehearsal;II)I"⟩
abbrev cL_cat : ByteArray := method_5_code
def yL_cat : MethodName := ⟨RL, "cat", "(LQuakeRehearsal;II)I"⟩
abbrev cL_take : ByteArray := method_6_code
def yL_take : MethodName := ⟨RL, "take", "(LQuakeRehearsal;I)I"⟩
abbrev cL_cue : ByteArray := method_7_code
def yL_cue : MethodName := ⟨RL, "cue", "(LQuakeRehearsal;II)I"⟩
abbrev cL_set : ByteArray := method_8_code
def yL_set : MethodName := ⟨RL, "set", "(LQuakeRehearsal;I)I"⟩
abbrev cL_add : ByteArray := method_9_code
def yL_add : MethodName := ⟨RL, "add", "(LQuakeRehearsal;I)I"⟩
abbrev cL_perform : ByteArray := method_10_code
def yL_perform : MethodName := ⟨RL, "perform", "(LQuakeRehearsal;)I"⟩
abbrev cL_of : ByteArray := method_11_code
def yL_of : MethodName := ⟨RL, "of", "(LQuakeRehearsal;II)I"⟩
abbrev cL_programme : ByteArray := method_12_code
def yL_programme : MethodName := ⟨RL, "programme", "(LQuakeRehearsal;I)I"⟩
abbrev cL_on : ByteArray := method_13_code
def yL_on : MethodName := ⟨RL, "on", "(LQuakeRehearsal;IIZ)I"⟩
abbrev cL_wouldMark : ByteArray := method_14_code
def yL_wouldMark : MethodName := ⟨RL, "wouldMark", "(LQuakeRehearsal;I)I"⟩
abbrev cL_wouldBreak : ByteArray := method_15_code
def yL_wouldBreak : MethodName := ⟨RL, "wouldBreak", "(LQuakeRehearsal;IZ)I"⟩
abbrev cL_leastBreaking : ByteArray := method_16_code
def yL_leastBreaking : MethodName := ⟨RL, "leastBreaking", "(LQuakeRehearsal;)I"⟩
abbrev cL_shocksFor : ByteArray := method_17_code
def yL_shocksFor : MethodName := ⟨RL, "shocksFor", "(LQuakeRehearsal;I)I"⟩
abbrev cL_isBroken : ByteArray := method_18_code
def yL_isBroken : MethodName := ⟨RL, "isBroken", "(LQuakeRehearsal;I)I"⟩
abbrev cL_cupAt : ByteArray := method_19_code
def yL_cupAt : MethodName := ⟨RL, "cupAt", "(LQuakeRehearsal;I)I"⟩
abbrev cL_lampAt : ByteArray := method_20_code
def yL_lampAt : MethodName := ⟨RL, "lampAt", "(LQuakeRehearsal;I)I"⟩
abbrev cL_catAt : ByteArray := method_21_code
def yL_catAt : MethodName := ⟨RL, "catAt", "(LQuakeRehearsal;I)I"⟩
abbrev cL_onFloor : ByteArray := method_22_code
def yL_onFloor : MethodName := ⟨RL, "onFloor", "(LQuakeRehearsal;II)I"⟩
abbrev cL_line : ByteArray := method_23_code
def yL_line : MethodName := ⟨RL, "line", "(LQuakeRehearsal;I)I"⟩
abbrev cL_character : ByteArray := method_24_code
def yL_character : MethodName := ⟨RL, "character", "(LQuakeRehearsal;I)I"⟩
abbrev cL_append : ByteArray := method_25_code
def yL_append : MethodName := ⟨RL, "append", "(LQuakeRehearsal;C)I"⟩
abbrev cL_runs : ByteArray := method_26_code
def yL_runs : MethodName := ⟨RL, "runs", "(LQuakeRehearsal;)I"⟩
abbrev cL_refusal : ByteArray := method_27_code
def yL_refusal : MethodName := ⟨RL, "refusal", "(LQuakeRehearsal;Z)I"⟩
abbrev cL_undo : ByteArray := method_28_code
def yL_undo : MethodName := ⟨RL, "undo", "(LQuakeRehearsal;)I"⟩
abbrev cL_run : ByteArray := method_29_code
def yL_run : MethodName := ⟨RL, "run", "(LQuakeRehearsal;Ljava/lang/String;)I"⟩
abbrev cL_drawn : ByteArray := method_30_code
def yL_drawn : MethodName := ⟨RL, "drawn", "([I)LQuakeRehearsal;"⟩
abbrev cL_props : ByteArray := method_31_code
def yL_props : MethodName := ⟨RL, "props", "(LQuakeRehearsal;)[[I"⟩
abbrev cL_there : ByteArray := method_32_code
def yL_there : MethodName := ⟨RL, "there", "([[III)I"⟩
abbrev cL_shocks : ByteArray := method_33_code
def yL_shocks : MethodName := ⟨RL, "shocks", "([[II)[I"⟩
abbrev cL_many : ByteArray := method_34_code
def yL_many : MethodName := ⟨RL, "many", "([[II)I"⟩
abbrev cL_performs : ByteArray := method_35_code
def yL_performs : MethodName := ⟨RL, "performs", "(LQuakeRehearsal;[[I)[I"⟩
abbrev cL_law : ByteArray := code
def yL_law : MethodName := ⟨RL, "law", "([I)Z"⟩
abbrev cL_shaken : ByteArray := method_37_code
def yL_shaken : MethodName := ⟨RL, "shaken", "(LQuakeRehearsal;)Z"⟩
abbrev cL_ranks : ByteArray := method_38_code
def yL_ranks : MethodName := ⟨RL, "ranks", "(LQuakeRehearsal;)Z"⟩
abbrev cL_spells : ByteArray := method_39_code
def yL_spells : MethodName := ⟨RL, "spells", "(LQuakeRehearsal;ILjava/lang/String;)Z"⟩
abbrev cL_lines : ByteArray := method_40_code
def yL_lines : MethodName := ⟨RL, "lines", "(LQuakeRehearsal;)Z"⟩
abbrev cL_sum : ByteArray := method_41_code
def yL_sum : MethodName := ⟨RL, "sum", "(LQuakeRehearsal;)J"⟩
abbrev cL_undone : ByteArray := method_42_code
def yL_undone : MethodName := ⟨RL, "undone", "([ILQuakeRehearsal;)Z"⟩
abbrev vwCl : List vw_C := [(RJ0, TJ0, 4), (RJ4, TJ4, 4), (RJx00060, TJx00060, 6), (RX0, TX0, 13), (RX1, TX1, 3), (RX2, TX2, 2), (RX3, TX3, 7), (RX4, TX4, 7), (RX5, TX5, 11)]
