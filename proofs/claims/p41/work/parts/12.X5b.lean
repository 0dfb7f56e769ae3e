-- X5.programme
def fX5_programme (w : qMem)  (a1 : Int32) : Option (Nat × Int32 × qMem) :=
  if a1 < 0 then
    some (4, 0, w)
  else
    if a1 < w 0 4 then
      qbd (fX0_plannedAt w 0 a1) fun (r4 : Int32) =>
      some (0, r4, w)
    else
      some (4, 0, w)
theorem qhd_X5_programme : yX5_programme.cls ≠ "java/lang/invoke/MethodHandle" ∧ yX5_programme.cls ≠ "java/lang/invoke/VarHandle" ∧ (parseMethodDescriptor yX5_programme.desc).map (fun d => d.parameters.length) = some 1 := ⟨by decide +kernel, by decide +kernel, by decide +kernel⟩
set_option maxHeartbeats 4000000 in
set_option maxRecDepth 100000 in
theorem mX5_programme {l : Launch} {D : va_G} {G : Nat → ClassId} {ad : Nat → Nat} (hJ : qInj ad) (hst : l.stackTraces = false) {w : qMem}   {a1 : Int32} {cF : Nat} {rF : Int32} {wF : qMem} (hf : fX5_programme w a1 = some (cF, rF, wF)) : qCX l D G ad yX5_programme cX5_programme 2 (some .int) 6 1 6 [.ref (ad 228), .int a1] w (fun st => qxQI D G ad st cF rF wF) cF wF := by
  refine qx_start RX5 rfl (by decide +kernel) hJ (fun a b h => by simp only [qxQI, qxQV, qxQR, qxQD, qxQF, h]) (Nat.le_of_ble_eq_true rfl) ?_
  intro p e s m args below meth c0 ls hC hr ht hR hl
  have hx := hC.1
  have hb := hC.2.1
  have hl : lv_has ls 2 [(0, .ref (ad 228)), (1, .int a1)] := hl
  unfold fX5_programme at hf
  refine lv_iload_n hx hb dX5_programme_0 rfl (lv_at hl 1 rfl) ?_
  refine lv_if_lt (tgt := 15) hx hb dX5_programme_1 (by decide) (fun c_1 => ?_) (fun c_1 => ?_)
  · have hf := qif_t hf c_1
    exact q_throwN hC hR hst ht (code := cF) (E := "java/util/NoSuchElementException") (text := "no such place in the programme") (ik := 122) (is := 124) (ic := 126) (i := 32) (by rw [← (qso3 hf).1]; rfl) (by rw [← (qso3 hf).1]; decide) (qso3 hf).2.2 (by decide +kernel) qk_553 qxi_126 (by decide +kernel) qxw_126 hl.1 dX5_programme_15 dX5_programme_18 dX5_programme_19 dX5_programme_21 dX5_programme_24 (Nat.le_of_ble_eq_true rfl) (Nat.le_of_ble_eq_true rfl) (Nat.le_of_ble_eq_true rfl) (Nat.le_of_ble_eq_true rfl) (Nat.le_of_ble_eq_true rfl) (Nat.le_of_ble_eq_true rfl)
  · have hf := qif_f hf c_1
    refine lv_iload_n hx hb dX5_programme_4 rfl (lv_at hl 1 rfl) ?_
    refine lv_aload_n hx hb dX5_programme_5 rfl (lv_at hl 0 rfl) ?_
    refine qget_X5_0 hC hR qk_226 dX5_programme_6 ?_
    refine qget_X0_4 hC hR (show 0 < 12 by decide) qk_118 dX5_programme_9 ?_
    refine lv_icmp_lt (tgt := 25) hx hb dX5_programme_12 (by decide) (fun c_2 => ?_) (fun c_2 => ?_)
    · have hf := qif_t hf c_2
      refine lv_aload_n hx hb dX5_programme_25 rfl (lv_at hl 0 rfl) ?_
      refine qget_X5_0 hC hR qk_226 dX5_programme_26 ?_
      refine lv_iload_n hx hb dX5_programme_29 rfl (lv_at hl 1 rfl) ?_
      obtain ⟨r4, hq3, hf⟩ := qbd_s hf
      refine q_callVi hC hR (mX0_plannedAt (qJ hC) (show 0 < 12 by decide) hq3) (by have := (show 0 < 12 by decide); omega) (qsh_hall G ad _ (show 0 < 12 by decide)) rfl qk_758 qk_421 qk_422 qk_20 qk_423 qhd_X0_plannedAt ⟨Nat.le_of_ble_eq_true rfl, Nat.le_of_ble_eq_true rfl⟩ hl.1 rfl (Nat.le_of_ble_eq_true rfl) dX5_programme_30 ⟨Nat.le_of_ble_eq_true rfl, Nat.le_of_ble_eq_true rfl⟩ (fun H locs hR => ?_)
      exact qx_iret hC hR hr rfl (qso3 hf).1.symm (qso3 hf).2.1 (qso3 hf).2.2 dX5_programme_33 (Nat.le_of_ble_eq_true rfl) (Nat.le_of_ble_eq_true rfl)
    · have hf := qif_f hf c_2
      exact q_throwN hC hR hst ht (code := cF) (E := "java/util/NoSuchElementException") (text := "no such place in the programme") (ik := 122) (is := 124) (ic := 126) (i := 32) (by rw [← (qso3 hf).1]; rfl) (by rw [← (qso3 hf).1]; decide) (qso3 hf).2.2 (by decide +kernel) qk_553 qxi_126 (by decide +kernel) qxw_126 hl.1 dX5_programme_15 dX5_programme_18 dX5_programme_19 dX5_programme_21 dX5_programme_24 (Nat.le_of_ble_eq_true rfl) (Nat.le_of_ble_eq_true rfl) (Nat.le_of_ble_eq_true rfl) (Nat.le_of_ble_eq_true rfl) (Nat.le_of_ble_eq_true rfl) (Nat.le_of_ble_eq_true rfl)
-- X5.on
def fX5_on (w : qMem)  (a1 : Int32) (a2 : Int32) (a3 : Int32) : Option (Nat × Int32 × qMem) :=
  qbd (fX5_isStrength w a1) fun (r2 : Int32) =>
  if r2 = 0 then
    some (1, 0, w)
  else
    qbd (fX5_isFloor w a2) fun (r5 : Int32) =>
    if r5 = 0 then
      some (1, 0, w)
    else
      if a3 = 0 then
        qbd2 (fX0_reachFloorByFloor w 0 a1 a2) fun (r9 : Int32) (w10 : qMem) =>
        some (0, r9, w10)
      else
        qbd (fX0_reachAgain w 0 a1 a2) fun (r12 : Int32) =>
        some (0, r12, w)
theorem qhd_X5_on : yX5_on.cls ≠ "java/lang/invoke/MethodHandle" ∧ yX5_on.cls ≠ "java/lang/invoke/VarHandle" ∧ (parseMethodDescriptor yX5_on.desc).map (fun d => d.parameters.length) = some 3 := ⟨by decide +kernel, by decide +kernel, by decide +kernel⟩
set_option maxHeartbeats 4000000 in
set_option maxRecDepth 100000 in
theorem mX5_on {l : Launch} {D : va_G} {G : Nat → ClassId} {ad : Nat → Nat} (hJ : qInj ad) (hst : l.stackTraces = false) {w : qMem}   {a1 : Int32} {a2 : Int32} {a3 : Int32} {cF : Nat} {rF : Int32} {wF : qMem} (hf : fX5_on w a1 a2 a3 = some (cF, rF, wF)) : qCX l D G ad yX5_on cX5_on 4 (some .int) 6 1 6 [.ref (ad 228), .int a1, .int a2, .int a3] w (fun st => qxQI D G ad st cF rF wF) cF wF := by
  refine qx_start RX5 rfl (by decide +kernel) hJ (fun a b h => by simp only [qxQI, qxQV, qxQR, qxQD, qxQF, h]) (Nat.le_of_ble_eq_true rfl) ?_
  intro p e s m args below meth c0 ls hC hr ht hR hl
  have hx := hC.1
  have hb := hC.2.1
  have hl : lv_has ls 4 [(0, .ref (ad 228)), (1, .int a1), (2, .int a2), (3, .int a3)] := hl
  unfold fX5_on at hf
  refine lv_iload_n hx hb dX5_on_0 rfl (lv_at hl 1 rfl) ?_
  obtain ⟨r2, hq1, hf⟩ := qbd_s hf
  refine q_callSi hC hR (mX5_isStrength (qJ hC) hq1) qk_340 qk_341 qk_19 qk_342 qhd_X5_isStrength ⟨Nat.le_of_ble_eq_true rfl, Nat.le_of_ble_eq_true rfl⟩ hl.1 rfl (Nat.le_of_ble_eq_true rfl) dX5_on_1 ⟨Nat.le_of_ble_eq_true rfl, Nat.le_of_ble_eq_true rfl⟩ (fun H locs hR => ?_)
  refine lv_if_eq (tgt := 14) hx hb dX5_on_4 (by decide) (fun c_3 => ?_) (fun c_3 => ?_)
  · have hf := qif_t hf c_3
    exact q_throw hC hR hst ht (code := cF) (E := "java/lang/IllegalArgumentException") (text := "no such strength or floor") (ik := 74) (is := 138) (ic := 78) (i := 30) (by rw [← (qso3 hf).1]; rfl) (by rw [← (qso3 hf).1]; decide) (qso3 hf).2.2 (by decide +kernel) qk_433 qxi_78 (by decide +kernel) qxw_78 hl.1 dX5_on_14 dX5_on_17 dX5_on_18 dX5_on_20 dX5_on_23 (Nat.le_of_ble_eq_true rfl) (Nat.le_of_ble_eq_true rfl) (Nat.le_of_ble_eq_true rfl) (Nat.le_of_ble_eq_true rfl) (Nat.le_of_ble_eq_true rfl) (Nat.le_of_ble_eq_true rfl)
  · have hf := qif_f hf c_3
    refine lv_iload_n hx hb dX5_on_7 rfl (lv_at hl 2 rfl) ?_
    obtain ⟨r5, hq4, hf⟩ := qbd_s hf
    refine q_callSi hC hR (mX5_isFloor (qJ hC) hq4) qk_305 qk_306 qk_19 qk_307 qhd_X5_isFloor ⟨Nat.le_of_ble_eq_true rfl, Nat.le_of_ble_eq_true rfl⟩ hl.1 rfl (Nat.le_of_ble_eq_true rfl) dX5_on_8 ⟨Nat.le_of_ble_eq_true rfl, Nat.le_of_ble_eq_true rfl⟩ (fun H locs hR => ?_)
    refine lv_if_ne (tgt := 24) hx hb dX5_on_11 (by decide) (fun c_6 => ?_) (fun c_6 => ?_)
    · have hf := qif_f hf c_6
      refine lv_iload_n hx hb dX5_on_24 rfl (lv_at hl 3 rfl) ?_
      refine lv_if_eq (tgt := 40) hx hb dX5_on_25 (by decide) (fun c_7 => ?_) (fun c_7 => ?_)
      · have hf := qif_t hf c_7
        refine lv_aload_n hx hb dX5_on_40 rfl (lv_at hl 0 rfl) ?_
        refine qget_X5_0 hC hR qk_226 dX5_on_41 ?_
        refine lv_iload_n hx hb dX5_on_44 rfl (lv_at hl 1 rfl) ?_
        refine lv_iload_n hx hb dX5_on_45 rfl (lv_at hl 2 rfl) ?_
        obtain ⟨r9, w10, hq8, hf⟩ := qbd2_s hf
        refine q_callVi hC hR (mX0_reachFloorByFloor (qJ hC) (show 0 < 12 by decide) hq8) (by have := (show 0 < 12 by decide); omega) (qsh_hall G ad _ (show 0 < 12 by decide)) rfl qk_678 qk_679 qk_680 qk_20 qk_681 qhd_X0_reachFloorByFloor ⟨Nat.le_of_ble_eq_true rfl, Nat.le_of_ble_eq_true rfl⟩ hl.1 rfl (Nat.le_of_ble_eq_true rfl) dX5_on_46 ⟨Nat.le_of_ble_eq_true rfl, Nat.le_of_ble_eq_true rfl⟩ (fun H locs hR => ?_)
        exact qx_iret hC hR hr rfl (qso3 hf).1.symm (qso3 hf).2.1 (qso3 hf).2.2 dX5_on_49 (Nat.le_of_ble_eq_true rfl) (Nat.le_of_ble_eq_true rfl)
      · have hf := qif_f hf c_7
        refine lv_aload_n hx hb dX5_on_28 rfl (lv_at hl 0 rfl) ?_
        refine qget_X5_0 hC hR qk_226 dX5_on_29 ?_
        refine lv_iload_n hx hb dX5_on_32 rfl (lv_at hl 1 rfl) ?_
        refine lv_iload_n hx hb dX5_on_33 rfl (lv_at hl 2 rfl) ?_
        obtain ⟨r12, hq11, hf⟩ := qbd_s hf
        refine q_callVi hC hR (mX0_reachAgain (qJ hC) (show 0 < 12 by decide) hq11) (by have := (show 0 < 12 by decide); omega) (qsh_hall G ad _ (show 0 < 12 by decide)) rfl qk_673 qk_674 qk_675 qk_20 qk_676 qhd_X0_reachAgain ⟨Nat.le_of_ble_eq_true rfl, Nat.le_of_ble_eq_true rfl⟩ hl.1 rfl (Nat.le_of_ble_eq_true rfl) dX5_on_34 ⟨Nat.le_of_ble_eq_true rfl, Nat.le_of_ble_eq_true rfl⟩ (fun H locs hR => ?_)
        refine lv_goto (tgt := 49) hx hb dX5_on_37 (by decide) ?_
        exact qx_iret hC hR hr rfl (qso3 hf).1.symm (qso3 hf).2.1 (qso3 hf).2.2 dX5_on_49 (Nat.le_of_ble_eq_true rfl) (Nat.le_of_ble_eq_true rfl)
    · have hf := qif_t hf c_6
      exact q_throw hC hR hst ht (code := cF) (E := "java/lang/IllegalArgumentException") (text := "no such strength or floor") (ik := 74) (is := 138) (ic := 78) (i := 30) (by rw [← (qso3 hf).1]; rfl) (by rw [← (qso3 hf).1]; decide) (qso3 hf).2.2 (by decide +kernel) qk_433 qxi_78 (by decide +kernel) qxw_78 hl.1 dX5_on_14 dX5_on_17 dX5_on_18 dX5_on_20 dX5_on_23 (Nat.le_of_ble_eq_true rfl) (Nat.le_of_ble_eq_true rfl) (Nat.le_of_ble_eq_true rfl) (Nat.le_of_ble_eq_true rfl) (Nat.le_of_ble_eq_true rfl) (Nat.le_of_ble_eq_true rfl)
-- X5.programmeBreaks
def fX5_programmeBreaks (w : qMem)   : Option (Int32 × qMem) :=
  qbd (fX0_copyFrom w 1 0) fun (w2 : qMem) =>
  qbd2 (fX0_performProgramme w2 1) fun (r4 : Int32) (w5 : qMem) =>
  some ((w5 19 9) - (w5 0 9), w5)
theorem qhd_X5_programmeBreaks : yX5_programmeBreaks.cls ≠ "java/lang/invoke/MethodHandle" ∧ yX5_programmeBreaks.cls ≠ "java/lang/invoke/VarHandle" ∧ (parseMethodDescriptor yX5_programmeBreaks.desc).map (fun d => d.parameters.length) = some 0 := ⟨by decide +kernel, by decide +kernel, by decide +kernel⟩
set_option maxHeartbeats 4000000 in
set_option maxRecDepth 100000 in
theorem mX5_programmeBreaks {l : Launch} {D : va_G} {G : Nat → ClassId} {ad : Nat → Nat} (hJ : qInj ad) {w : qMem}    {rF : Int32} {wF : qMem} (hf : fX5_programmeBreaks w = some (rF, wF)) : qCMi l D G ad yX5_programmeBreaks cX5_programmeBreaks 1 (some .int) 6 0 0 [.ref (ad 228)] w rF wF := by
  refine q_start RX5 rfl (by decide +kernel) hJ (fun a b h => by simp only [qQI, qQV, qQR, qQD, qQF, h]) (Nat.le_of_ble_eq_true rfl) ?_
  intro p e s m args below meth c0 ls hC hr hR hl
  have hx := hC.1
  have hb := hC.2.1
  have hl : lv_has ls 1 [(0, .ref (ad 228))] := hl
  unfold fX5_programmeBreaks at hf
  refine lv_aload_n hx hb dX5_programmeBreaks_0 rfl (lv_at hl 0 rfl) ?_
  refine qget_X5_1 hC hR qk_227 dX5_programmeBreaks_1 ?_
  refine lv_aload_n hx hb dX5_programmeBreaks_4 rfl (lv_at hl 0 rfl) ?_
  refine qget_X5_0 hC hR qk_226 dX5_programmeBreaks_5 ?_
  obtain ⟨w2, hq1, hf⟩ := qbd_s hf
  refine q_callVv hC hR (mX0_copyFrom (qJ hC) (show 1 < 12 by decide) (show 0 < 12 by decide) hq1) (by have := (show 1 < 12 by decide); omega) (qsh_hall G ad _ (show 1 < 12 by decide)) rfl qk_700 qk_286 qk_287 qk_20 qk_288 qhd_X0_copyFrom ⟨Nat.le_of_ble_eq_true rfl, Nat.le_of_ble_eq_true rfl⟩ hl.1 rfl (Nat.le_of_ble_eq_true rfl) dX5_programmeBreaks_8 ⟨Nat.zero_le _, Nat.zero_le _⟩ (fun H locs hR => ?_)
  refine lv_aload_n hx hb dX5_programmeBreaks_11 rfl (lv_at hl 0 rfl) ?_
  refine qget_X5_1 hC hR qk_227 dX5_programmeBreaks_12 ?_
  obtain ⟨r4, w5, hq3, hf⟩ := qbd2_s hf
  refine q_callVi hC hR (mX0_performProgramme (qJ hC) (show 1 < 12 by decide) hq3) (by have := (show 1 < 12 by decide); omega) (qsh_hall G ad _ (show 1 < 12 by decide)) rfl qk_412 qk_413 qk_414 qk_20 qk_415 qhd_X0_performProgramme ⟨Nat.le_of_ble_eq_true rfl, Nat.le_of_ble_eq_true rfl⟩ hl.1 rfl (Nat.le_of_ble_eq_true rfl) dX5_programmeBreaks_15 ⟨Nat.zero_le _, Nat.zero_le _⟩ (fun H locs hR => ?_)
  refine lv_pop hx hb dX5_programmeBreaks_18 rfl ?_
  refine lv_aload_n hx hb dX5_programmeBreaks_19 rfl (lv_at hl 0 rfl) ?_
  refine qget_X5_1 hC hR qk_227 dX5_programmeBreaks_20 ?_
  refine qget_X0_9 hC hR (show 1 < 12 by decide) qk_128 dX5_programmeBreaks_23 ?_
  refine lv_aload_n hx hb dX5_programmeBreaks_26 rfl (lv_at hl 0 rfl) ?_
  refine qget_X5_0 hC hR qk_226 dX5_programmeBreaks_27 ?_
  refine qget_X0_9 hC hR (show 0 < 12 by decide) qk_128 dX5_programmeBreaks_30 ?_
  refine lv_isub hx hb dX5_programmeBreaks_33 ?_
  exact q_iret hC hR hr rfl (qso2 hf).1 (qso2 hf).2 dX5_programmeBreaks_34
-- X5.onFloor
def fX5_onFloor (w : qMem)  (a1 : Int32) (a2 : Int32) : Option (Nat × Int32 × qMem) :=
  if a1 < 1 then
    some (1, 0, w)
  else
    if (3 : Int32) < a1 then
      some (1, 0, w)
    else
      qbd (fX5_isFloor w a2) fun (r4 : Int32) =>
      if r4 = 0 then
        some (1, 0, w)
      else
        qbd (fX0_countOn w 0 a1 a2) fun (r7 : Int32) =>
        some (0, r7, w)
theorem qhd_X5_onFloor : yX5_onFloor.cls ≠ "java/lang/invoke/MethodHandle" ∧ yX5_onFloor.cls ≠ "java/lang/invoke/VarHandle" ∧ (parseMethodDescriptor yX5_onFloor.desc).map (fun d => d.parameters.length) = some 2 := ⟨by decide +kernel, by decide +kernel, by decide +kernel⟩
set_option maxHeartbeats 4000000 in
set_option maxRecDepth 100000 in
theorem mX5_onFloor {l : Launch} {D : va_G} {G : Nat → ClassId} {ad : Nat → Nat} (hJ : qInj ad) (hst : l.stackTraces = false) {w : qMem}   {a1 : Int32} {a2 : Int32} {cF : Nat} {rF : Int32} {wF : qMem} (hf : fX5_onFloor w a1 a2 = some (cF, rF, wF)) : qCX l D G ad yX5_onFloor cX5_onFloor 3 (some .int) 6 1 6 [.ref (ad 228), .int a1, .int a2] w (fun st => qxQI D G ad st cF rF wF) cF wF := by
  refine qx_start RX5 rfl (by decide +kernel) hJ (fun a b h => by simp only [qxQI, qxQV, qxQR, qxQD, qxQF, h]) (Nat.le_of_ble_eq_true rfl) ?_
  intro p e s m args below meth c0 ls hC hr ht hR hl
  have hx := hC.1
  have hb := hC.2.1
  have hl : lv_has ls 3 [(0, .ref (ad 228)), (1, .int a1), (2, .int a2)] := hl
  unfold fX5_onFloor at hf
  refine lv_iload_n hx hb dX5_onFloor_0 rfl (lv_at hl 1 rfl) ?_
  refine lv_iconst (v := 1) hx hb dX5_onFloor_1 (by decide) ?_
  refine lv_icmp_lt (tgt := 17) hx hb dX5_onFloor_2 (by decide) (fun c_1 => ?_) (fun c_1 => ?_)
  · have hf := qif_t hf c_1
    exact q_throw hC hR hst ht (code := cF) (E := "java/lang/IllegalArgumentException") (text := "no such kind or floor") (ik := 74) (is := 184) (ic := 78) (i := 34) (by rw [← (qso3 hf).1]; rfl) (by rw [← (qso3 hf).1]; decide) (qso3 hf).2.2 (by decide +kernel) qk_433 qxi_78 (by decide +kernel) qxw_78 hl.1 dX5_onFloor_17 dX5_onFloor_20 dX5_onFloor_21 dX5_onFloor_23 dX5_onFloor_26 (Nat.le_of_ble_eq_true rfl) (Nat.le_of_ble_eq_true rfl) (Nat.le_of_ble_eq_true rfl) (Nat.le_of_ble_eq_true rfl) (Nat.le_of_ble_eq_true rfl) (Nat.le_of_ble_eq_true rfl)
  · have hf := qif_f hf c_1
    refine lv_iload_n hx hb dX5_onFloor_5 rfl (lv_at hl 1 rfl) ?_
    refine lv_iconst (v := 3) hx hb dX5_onFloor_6 (by decide) ?_
    refine lv_icmp_gt (tgt := 17) hx hb dX5_onFloor_7 (by decide) (fun c_2 => ?_) (fun c_2 => ?_)
    · have hf := qif_t hf c_2
      exact q_throw hC hR hst ht (code := cF) (E := "java/lang/IllegalArgumentException") (text := "no such kind or floor") (ik := 74) (is := 184) (ic := 78) (i := 34) (by rw [← (qso3 hf).1]; rfl) (by rw [← (qso3 hf).1]; decide) (qso3 hf).2.2 (by decide +kernel) qk_433 qxi_78 (by decide +kernel) qxw_78 hl.1 dX5_onFloor_17 dX5_onFloor_20 dX5_onFloor_21 dX5_onFloor_23 dX5_onFloor_26 (Nat.le_of_ble_eq_true rfl) (Nat.le_of_ble_eq_true rfl) (Nat.le_of_ble_eq_true rfl) (Nat.le_of_ble_eq_true rfl) (Nat.le_of_ble_eq_true rfl) (Nat.le_of_ble_eq_true rfl)
    · have hf := qif_f hf c_2
      refine lv_iload_n hx hb dX5_onFloor_10 rfl (lv_at hl 2 rfl) ?_
      obtain ⟨r4, hq3, hf⟩ := qbd_s hf
      refine q_callSi hC hR (mX5_isFloor (qJ hC) hq3) qk_305 qk_306 qk_19 qk_307 qhd_X5_isFloor ⟨Nat.le_of_ble_eq_true rfl, Nat.le_of_ble_eq_true rfl⟩ hl.1 rfl (Nat.le_of_ble_eq_true rfl) dX5_onFloor_11 ⟨Nat.le_of_ble_eq_true rfl, Nat.le_of_ble_eq_true rfl⟩ (fun H locs hR => ?_)
      refine lv_if_ne (tgt := 27) hx hb dX5_onFloor_14 (by decide) (fun c_5 => ?_) (fun c_5 => ?_)
      · have hf := qif_f hf c_5
        refine lv_aload_n hx hb dX5_onFloor_27 rfl (lv_at hl 0 rfl) ?_
        refine qget_X5_0 hC hR qk_226 dX5_onFloor_28 ?_
        refine lv_iload_n hx hb dX5_onFloor_31 rfl (lv_at hl 1 rfl) ?_
        refine lv_iload_n hx hb dX5_onFloor_32 rfl (lv_at hl 2 rfl) ?_
        obtain ⟨r7, hq6, hf⟩ := qbd_s hf
        refine q_callVi hC hR (mX0_countOn (qJ hC) (show 0 < 12 by decide) hq6) (by have := (show 0 < 12 by decide); omega) (qsh_hall G ad _ (show 0 < 12 by decide)) rfl qk_312 qk_313 qk_314 qk_20 qk_315 qhd_X0_countOn ⟨Nat.le_of_ble_eq_true rfl, Nat.le_of_ble_eq_true rfl⟩ hl.1 rfl (Nat.le_of_ble_eq_true rfl) dX5_onFloor_33 ⟨Nat.le_of_ble_eq_true rfl, Nat.le_of_ble_eq_true rfl⟩ (fun H locs hR => ?_)
        exact qx_iret hC hR hr rfl (qso3 hf).1.symm (qso3 hf).2.1 (qso3 hf).2.2 dX5_onFloor_36 (Nat.le_of_ble_eq_true rfl) (Nat.le_of_ble_eq_true rfl)
      · have hf := qif_t hf c_5
        exact q_throw hC hR hst ht (code := cF) (E := "java/lang/IllegalArgumentException") (text := "no such kind or floor") (ik := 74) (is := 184) (ic := 78) (i := 34) (by rw [← (qso3 hf).1]; rfl) (by rw [← (qso3 hf).1]; decide) (qso3 hf).2.2 (by decide +kernel) qk_433 qxi_78 (by decide +kernel) qxw_78 hl.1 dX5_onFloor_17 dX5_onFloor_20 dX5_onFloor_21 dX5_onFloor_23 dX5_onFloor_26 (Nat.le_of_ble_eq_true rfl) (Nat.le_of_ble_eq_true rfl) (Nat.le_of_ble_eq_true rfl) (Nat.le_of_ble_eq_true rfl) (Nat.le_of_ble_eq_true rfl) (Nat.le_of_ble_eq_true rfl)
-- X5.programmeLine
def fX5_programmeLine (w : qMem)   : Option (Int32 × qMem) :=
  qbd (fX2_writeProgramme w 0) fun (w2 : qMem) =>
  some (w2 236 1, w2)
theorem qhd_X5_programmeLine : yX5_programmeLine.cls ≠ "java/lang/invoke/MethodHandle" ∧ yX5_programmeLine.cls ≠ "java/lang/invoke/VarHandle" ∧ (parseMethodDescriptor yX5_programmeLine.desc).map (fun d => d.parameters.length) = some 0 := ⟨by decide +kernel, by decide +kernel, by decide +kernel⟩
set_option maxHeartbeats 4000000 in
set_option maxRecDepth 100000 in
theorem mX5_programmeLine {l : Launch} {D : va_G} {G : Nat → ClassId} {ad : Nat → Nat} (hJ : qInj ad) {w : qMem}    {rF : Int32} {wF : qMem} (hf : fX5_programmeLine w = some (rF, wF)) : qCMi l D G ad yX5_programmeLine cX5_programmeLine 1 (some .int) 4 0 0 [.ref (ad 228)] w rF wF := by
  refine q_start RX5 rfl (by decide +kernel) hJ (fun a b h => by simp only [qQI, qQV, qQR, qQD, qQF, h]) (Nat.le_of_ble_eq_true rfl) ?_
  intro p e s m args below meth c0 ls hC hr hR hl
  have hx := hC.1
  have hb := hC.2.1
  have hl : lv_has ls 1 [(0, .ref (ad 228))] := hl
  unfold fX5_programmeLine at hf
  refine lv_aload_n hx hb dX5_programmeLine_0 rfl (lv_at hl 0 rfl) ?_
  refine qget_X5_5 hC hR qk_231 dX5_programmeLine_1 ?_
  refine lv_aload_n hx hb dX5_programmeLine_4 rfl (lv_at hl 0 rfl) ?_
  refine qget_X5_0 hC hR qk_226 dX5_programmeLine_5 ?_
  obtain ⟨w2, hq1, hf⟩ := qbd_s hf
  refine q_callVv hC hR (mX2_writeProgramme (qJ hC) (show 0 < 12 by decide) hq1) (by decide) (qsh_236 G ad _) rfl qk_1189 qk_1190 qk_1191 qk_24 qk_1192 qhd_X2_writeProgramme ⟨Nat.le_of_ble_eq_true rfl, Nat.le_of_ble_eq_true rfl⟩ hl.1 rfl (Nat.le_of_ble_eq_true rfl) dX5_programmeLine_8 ⟨Nat.zero_le _, Nat.zero_le _⟩ (fun H locs hR => ?_)
  refine lv_aload_n hx hb dX5_programmeLine_11 rfl (lv_at hl 0 rfl) ?_
  refine qget_X5_5 hC hR qk_231 dX5_programmeLine_12 ?_
  refine qget_X2_1 hC hR qk_220 dX5_programmeLine_15 ?_
  exact q_iret hC hR hr rfl (qso2 hf).1 (qso2 hf).2 dX5_programmeLine_18
-- X5.character
def fX5_character (w : qMem)  (a1 : Int32) : Option (Nat × Int32 × qMem) :=
  if a1 < 0 then
    some (3, 0, w)
  else
    if a1 < w 236 1 then
      qbd (fX2_signAt w a1) fun (r4 : Int32) =>
      if qisC r4 = true then
      some (0, r4, w)
      else none
    else
      some (3, 0, w)
theorem qhd_X5_character : yX5_character.cls ≠ "java/lang/invoke/MethodHandle" ∧ yX5_character.cls ≠ "java/lang/invoke/VarHandle" ∧ (parseMethodDescriptor yX5_character.desc).map (fun d => d.parameters.length) = some 1 := ⟨by decide +kernel, by decide +kernel, by decide +kernel⟩
set_option maxHeartbeats 4000000 in
set_option maxRecDepth 100000 in
theorem mX5_character {l : Launch} {D : va_G} {G : Nat → ClassId} {ad : Nat → Nat} (hJ : qInj ad) (hst : l.stackTraces = false) {w : qMem}   {a1 : Int32} {cF : Nat} {rF : Int32} {wF : qMem} (hf : fX5_character w a1 = some (cF, rF, wF)) : qCX l D G ad yX5_character cX5_character 2 (some .char) 6 1 6 [.ref (ad 228), .int a1] w (fun st => qxQI D G ad st cF rF wF) cF wF := by
  refine qx_start RX5 rfl (by decide +kernel) hJ (fun a b h => by simp only [qxQI, qxQV, qxQR, qxQD, qxQF, h]) (Nat.le_of_ble_eq_true rfl) ?_
  intro p e s m args below meth c0 ls hC hr ht hR hl
  have hx := hC.1
  have hb := hC.2.1
  have hl : lv_has ls 2 [(0, .ref (ad 228)), (1, .int a1)] := hl
  unfold fX5_character at hf
  refine lv_iload_n hx hb dX5_character_0 rfl (lv_at hl 1 rfl) ?_
  refine lv_if_lt (tgt := 15) hx hb dX5_character_1 (by decide) (fun c_1 => ?_) (fun c_1 => ?_)
  · have hf := qif_t hf c_1
    exact q_throw hC hR hst ht (code := cF) (E := "java/lang/IndexOutOfBoundsException") (text := "no such character in the line") (ik := 67) (is := 199) (ic := 71) (i := 38) (by rw [← (qso3 hf).1]; rfl) (by rw [← (qso3 hf).1]; decide) (qso3 hf).2.2 (by decide +kernel) qk_600 qxi_71 (by decide +kernel) qxw_71 hl.1 dX5_character_15 dX5_character_18 dX5_character_19 dX5_character_21 dX5_character_24 (Nat.le_of_ble_eq_true rfl) (Nat.le_of_ble_eq_true rfl) (Nat.le_of_ble_eq_true rfl) (Nat.le_of_ble_eq_true rfl) (Nat.le_of_ble_eq_true rfl) (Nat.le_of_ble_eq_true rfl)
  · have hf := qif_f hf c_1
    refine lv_iload_n hx hb dX5_character_4 rfl (lv_at hl 1 rfl) ?_
    refine lv_aload_n hx hb dX5_character_5 rfl (lv_at hl 0 rfl) ?_
    refine qget_X5_5 hC hR qk_231 dX5_character_6 ?_
    refine qget_X2_1 hC hR qk_220 dX5_character_9 ?_
    refine lv_icmp_lt (tgt := 25) hx hb dX5_character_12 (by decide) (fun c_2 => ?_) (fun c_2 => ?_)
    · have hf := qif_t hf c_2
      refine lv_aload_n hx hb dX5_character_25 rfl (lv_at hl 0 rfl) ?_
      refine qget_X5_5 hC hR qk_231 dX5_character_26 ?_
      refine lv_iload_n hx hb dX5_character_29 rfl (lv_at hl 1 rfl) ?_
      obtain ⟨r4, hq3, hf⟩ := qbd_s hf
      refine q_callVi hC hR (mX2_signAt (qJ hC) hq3) (by decide) (qsh_236 G ad _) rfl qk_1181 qk_1182 qk_1183 qk_24 qk_1184 qhd_X2_signAt ⟨Nat.le_of_ble_eq_true rfl, Nat.le_of_ble_eq_true rfl⟩ hl.1 rfl (Nat.le_of_ble_eq_true rfl) dX5_character_30 ⟨Nat.le_of_ble_eq_true rfl, Nat.le_of_ble_eq_true rfl⟩ (fun H locs hR => ?_)
      obtain ⟨g5, hf⟩ := qgd hf
      exact qx_iret hC hR hr (qisC_ok g5).1 (qso3 hf).1.symm (qso3 hf).2.1 (qso3 hf).2.2 dX5_character_33 (Nat.le_of_ble_eq_true rfl) (Nat.le_of_ble_eq_true rfl)
    · have hf := qif_f hf c_2
      exact q_throw hC hR hst ht (code := cF) (E := "java/lang/IndexOutOfBoundsException") (text := "no such character in the line") (ik := 67) (is := 199) (ic := 71) (i := 38) (by rw [← (qso3 hf).1]; rfl) (by rw [← (qso3 hf).1]; decide) (qso3 hf).2.2 (by decide +kernel) qk_600 qxi_71 (by decide +kernel) qxw_71 hl.1 dX5_character_15 dX5_character_18 dX5_character_19 dX5_character_21 dX5_character_24 (Nat.le_of_ble_eq_true rfl) (Nat.le_of_ble_eq_true rfl) (Nat.le_of_ble_eq_true rfl) (Nat.le_of_ble_eq_true rfl) (Nat.le_of_ble_eq_true rfl) (Nat.le_of_ble_eq_true rfl)
-- X5.append
def fX5_append (w : qMem)  (a1 : Int32) : Option (Nat × Int32 × qMem) :=
  if w 231 1 < 60 then
    qbd (fX4_put w a1) fun (w3 : qMem) =>
    some (0, w3 231 1, w3)
  else
    some (5, 0, w)
theorem qhd_X5_append : yX5_append.cls ≠ "java/lang/invoke/MethodHandle" ∧ yX5_append.cls ≠ "java/lang/invoke/VarHandle" ∧ (parseMethodDescriptor yX5_append.desc).map (fun d => d.parameters.length) = some 1 := ⟨by decide +kernel, by decide +kernel, by decide +kernel⟩
set_option maxHeartbeats 4000000 in
set_option maxRecDepth 100000 in
theorem mX5_append {l : Launch} {D : va_G} {G : Nat → ClassId} {ad : Nat → Nat} (hJ : qInj ad) (hst : l.stackTraces = false) {w : qMem}   {a1 : Int32} {cF : Nat} {rF : Int32} {wF : qMem} (hf : fX5_append w a1 = some (cF, rF, wF)) : qCX l D G ad yX5_append cX5_append 2 (some .int) 6 1 6 [.ref (ad 228), .int a1] w (fun st => qxQI D G ad st cF rF wF) cF wF := by
  refine qx_start RX5 rfl (by decide +kernel) hJ (fun a b h => by simp only [qxQI, qxQV, qxQR, qxQD, qxQF, h]) (Nat.le_of_ble_eq_true rfl) ?_
  intro p e s m args below meth c0 ls hC hr ht hR hl
  have hx := hC.1
  have hb := hC.2.1
  have hl : lv_has ls 2 [(0, .ref (ad 228)), (1, .int a1)] := hl
  unfold fX5_append at hf
  refine lv_aload_n hx hb dX5_append_0 rfl (lv_at hl 0 rfl) ?_
  refine qget_X5_4 hC hR qk_230 dX5_append_1 ?_
  refine qget_X4_1 hC hR qk_189 dX5_append_4 ?_
  refine lv_bipush (v := 60) hx hb dX5_append_7 (by decide) ?_
  refine lv_icmp_lt (tgt := 22) hx hb dX5_append_9 (by decide) (fun c_1 => ?_) (fun c_1 => ?_)
  · have hf := qif_t hf c_1
    refine lv_aload_n hx hb dX5_append_22 rfl (lv_at hl 0 rfl) ?_
    refine qget_X5_4 hC hR qk_230 dX5_append_23 ?_
    refine lv_iload_n hx hb dX5_append_26 rfl (lv_at hl 1 rfl) ?_
    obtain ⟨w3, hq2, hf⟩ := qbd_s hf
    refine q_callVv hC hR (mX4_put (qJ hC) hq2) (by decide) (qsh_231 G ad _) rfl qk_1255 qk_1256 qk_1257 qk_23 qk_1258 qhd_X4_put ⟨Nat.le_of_ble_eq_true rfl, Nat.le_of_ble_eq_true rfl⟩ hl.1 rfl (Nat.le_of_ble_eq_true rfl) dX5_append_27 ⟨Nat.le_of_ble_eq_true rfl, Nat.le_of_ble_eq_true rfl⟩ (fun H locs hR => ?_)
    refine lv_aload_n hx hb dX5_append_30 rfl (lv_at hl 0 rfl) ?_
    refine qget_X5_4 hC hR qk_230 dX5_append_31 ?_
    refine qget_X4_1 hC hR qk_189 dX5_append_34 ?_
    exact qx_iret hC hR hr rfl (qso3 hf).1.symm (qso3 hf).2.1 (qso3 hf).2.2 dX5_append_37 (Nat.le_of_ble_eq_true rfl) (Nat.le_of_ble_eq_true rfl)
  · have hf := qif_f hf c_1
    exact q_throw hC hR hst ht (code := cF) (E := "java/lang/IllegalStateException") (text := "the input contains 60 characters") (ik := 206) (is := 208) (ic := 210) (i := 40) (by rw [← (qso3 hf).1]; rfl) (by rw [← (qso3 hf).1]; decide) (qso3 hf).2.2 (by decide +kernel) qk_1238 qxi_210 (by decide +kernel) qxw_210 hl.1 dX5_append_12 dX5_append_15 dX5_append_16 dX5_append_18 dX5_append_21 (Nat.le_of_ble_eq_true rfl) (Nat.le_of_ble_eq_true rfl) (Nat.le_of_ble_eq_true rfl) (Nat.le_of_ble_eq_true rfl) (Nat.le_of_ble_eq_true rfl) (Nat.le_of_ble_eq_true rfl)
-- X5.refusal
def fX5_refusal (w : qMem)  (a1 : Int32) : Option (Nat × Int32 × qMem) :=
  if w 228 8 = 0 then
    some (4, 0, w)
  else
    if a1 = 0 then
      some (0, w 228 8, w)
    else
      some (0, w 228 9, w)
theorem qhd_X5_refusal : yX5_refusal.cls ≠ "java/lang/invoke/MethodHandle" ∧ yX5_refusal.cls ≠ "java/lang/invoke/VarHandle" ∧ (parseMethodDescriptor yX5_refusal.desc).map (fun d => d.parameters.length) = some 1 := ⟨by decide +kernel, by decide +kernel, by decide +kernel⟩
set_option maxHeartbeats 4000000 in
set_option maxRecDepth 100000 in
theorem mX5_refusal {l : Launch} {D : va_G} {G : Nat → ClassId} {ad : Nat → Nat} (hJ : qInj ad) (hst : l.stackTraces = false) {w : qMem}   {a1 : Int32} {cF : Nat} {rF : Int32} {wF : qMem} (hf : fX5_refusal w a1 = some (cF, rF, wF)) : qCX l D G ad yX5_refusal cX5_refusal 2 (some .int) 6 1 6 [.ref (ad 228), .int a1] w (fun st => qxQI D G ad st cF rF wF) cF wF := by
  refine qx_start RX5 rfl (by decide +kernel) hJ (fun a b h => by simp only [qxQI, qxQV, qxQR, qxQD, qxQF, h]) (Nat.le_of_ble_eq_true rfl) ?_
  intro p e s m args below meth c0 ls hC hr ht hR hl
  have hx := hC.1
  have hb := hC.2.1
  have hl : lv_has ls 2 [(0, .ref (ad 228)), (1, .int a1)] := hl
  unfold fX5_refusal at hf
  refine lv_aload_n hx hb dX5_refusal_0 rfl (lv_at hl 0 rfl) ?_
  refine qget_X5_8 hC hR qk_234 dX5_refusal_1 ?_
  refine lv_if_ne (tgt := 17) hx hb dX5_refusal_4 (by decide) (fun c_1 => ?_) (fun c_1 => ?_)
  · have hf := qif_f hf c_1
    refine lv_iload_n hx hb dX5_refusal_17 rfl (lv_at hl 1 rfl) ?_
    refine lv_if_eq (tgt := 28) hx hb dX5_refusal_18 (by decide) (fun c_2 => ?_) (fun c_2 => ?_)
    · have hf := qif_t hf c_2
      refine lv_aload_n hx hb dX5_refusal_28 rfl (lv_at hl 0 rfl) ?_
      refine qget_X5_8 hC hR qk_234 dX5_refusal_29 ?_
      exact qx_iret hC hR hr rfl (qso3 hf).1.symm (qso3 hf).2.1 (qso3 hf).2.2 dX5_refusal_32 (Nat.le_of_ble_eq_true rfl) (Nat.le_of_ble_eq_true rfl)
    · have hf := qif_f hf c_2
      refine lv_aload_n hx hb dX5_refusal_21 rfl (lv_at hl 0 rfl) ?_
      refine qget_X5_9 hC hR qk_235 dX5_refusal_22 ?_
      refine lv_goto (tgt := 32) hx hb dX5_refusal_25 (by decide) ?_
      exact qx_iret hC hR hr rfl (qso3 hf).1.symm (qso3 hf).2.1 (qso3 hf).2.2 dX5_refusal_32 (Nat.le_of_ble_eq_true rfl) (Nat.le_of_ble_eq_true rfl)
  · have hf := qif_t hf c_1
    exact q_throwN hC hR hst ht (code := cF) (E := "java/util/NoSuchElementException") (text := "nothing was refused") (ik := 122) (is := 248) (ic := 126) (i := 23) (by rw [← (qso3 hf).1]; rfl) (by rw [← (qso3 hf).1]; decide) (qso3 hf).2.2 (by decide +kernel) qk_553 qxi_126 (by decide +kernel) qxw_126 hl.1 dX5_refusal_7 dX5_refusal_10 dX5_refusal_11 dX5_refusal_13 dX5_refusal_16 (Nat.le_of_ble_eq_true rfl) (Nat.le_of_ble_eq_true rfl) (Nat.le_of_ble_eq_true rfl) (Nat.le_of_ble_eq_true rfl) (Nat.le_of_ble_eq_true rfl) (Nat.le_of_ble_eq_true rfl)
-- X5.account
def fX5_account (w : qMem)  (a1 : Int32) : Option (Nat × Int32 × qMem) :=
  if a1 = 0 then
    some (0, w 0 2, w)
  else
  if a1 = 1 then
    qbd (fX0_countOf w 0 1) fun (r4 : Int32) =>
    some (0, r4, w)
  else
  if a1 = 2 then
    qbd (fX0_countOf w 0 2) fun (r7 : Int32) =>
    some (0, r7, w)
  else
  if a1 = 3 then
    qbd (fX0_countOf w 0 3) fun (r10 : Int32) =>
    some (0, r10, w)
  else
  if a1 = 4 then
    qbd (fX0_countBroken w 0) fun (r13 : Int32) =>
    some (0, r13, w)
  else
  if a1 = 5 then
    some (0, w 0 5, w)
  else
  if a1 = 6 then
    some (0, w 0 6, w)
  else
  if a1 = 7 then
    some (0, w 0 7, w)
  else
  if a1 = 8 then
    some (0, w 0 8, w)
  else
  if a1 = 9 then
    some (0, w 0 9, w)
  else
  if a1 = 10 then
    some (0, w 0 4, w)
  else
  if a1 = 11 then
    some (0, w 231 1, w)
  else
  if a1 = 12 then
    some (0, w 229 2, w)
  else
  some (1, 0, w)
theorem qhd_X5_account : yX5_account.cls ≠ "java/lang/invoke/MethodHandle" ∧ yX5_account.cls ≠ "java/lang/invoke/VarHandle" ∧ (parseMethodDescriptor yX5_account.desc).map (fun d => d.parameters.length) = some 1 := ⟨by decide +kernel, by decide +kernel, by decide +kernel⟩
set_option maxHeartbeats 4000000 in
set_option maxRecDepth 100000 in
theorem mX5_account {l : Launch} {D : va_G} {G : Nat → ClassId} {ad : Nat → Nat} (hJ : qInj ad) (hst : l.stackTraces = false) {w : qMem}   {a1 : Int32} {cF : Nat} {rF : Int32} {wF : qMem} (hf : fX5_account w a1 = some (cF, rF, wF)) : qCX l D G ad yX5_account cX5_account 2 (some .int) 6 1 6 [.ref (ad 228), .int a1] w (fun st => qxQI D G ad st cF rF wF) cF wF := by
  refine qx_start RX5 rfl (by decide +kernel) hJ (fun a b h => by simp only [qxQI, qxQV, qxQR, qxQD, qxQF, h]) (Nat.le_of_ble_eq_true rfl) ?_
  intro p e s m args below meth c0 ls hC hr ht hR hl
  have hx := hC.1
  have hb := hC.2.1
  have hl : lv_has ls 2 [(0, .ref (ad 228)), (1, .int a1)] := hl
  unfold fX5_account at hf
  refine lv_iload_n hx hb dX5_account_0 rfl (lv_at hl 1 rfl) ?_
  by_cases c_1 : a1 = 0
  · have hf := qif_t hf c_1
    refine lv_tableIn (off := 67) (tgt := 68) hx hb dX5_account_1 (by rw [c_1]; decide) (by rw [c_1]; decide) (by rw [c_1]; decide) (by decide) ?_
    refine lv_aload_n hx hb dX5_account_68 rfl (lv_at hl 0 rfl) ?_
    refine qget_X5_0 hC hR qk_226 dX5_account_69 ?_
    refine qget_X0_2 hC hR (show 0 < 12 by decide) qk_114 dX5_account_72 ?_
    exact qx_iret hC hR hr rfl (qso3 hf).1.symm (qso3 hf).2.1 (qso3 hf).2.2 dX5_account_75 (Nat.le_of_ble_eq_true rfl) (Nat.le_of_ble_eq_true rfl)
  have hf := qif_f hf c_1
  by_cases c_2 : a1 = 1
  · have hf := qif_t hf c_2
    refine lv_tableIn (off := 75) (tgt := 76) hx hb dX5_account_1 (by rw [c_2]; decide) (by rw [c_2]; decide) (by rw [c_2]; decide) (by decide) ?_
    refine lv_aload_n hx hb dX5_account_76 rfl (lv_at hl 0 rfl) ?_
    refine qget_X5_0 hC hR qk_226 dX5_account_77 ?_
    refine lv_iconst (v := 1) hx hb dX5_account_80 (by decide) ?_
    obtain ⟨r4, hq3, hf⟩ := qbd_s hf
    refine q_callVi hC hR (mX0_countOf (qJ hC) (show 0 < 12 by decide) hq3) (by have := (show 0 < 12 by decide); omega) (qsh_hall G ad _ (show 0 < 12 by decide)) rfl qk_539 qk_417 qk_418 qk_20 qk_419 qhd_X0_countOf ⟨Nat.le_of_ble_eq_true rfl, Nat.le_of_ble_eq_true rfl⟩ hl.1 rfl (Nat.le_of_ble_eq_true rfl) dX5_account_81 ⟨Nat.le_of_ble_eq_true rfl, Nat.le_of_ble_eq_true rfl⟩ (fun H locs hR => ?_)
    exact qx_iret hC hR hr rfl (qso3 hf).1.symm (qso3 hf).2.1 (qso3 hf).2.2 dX5_account_84 (Nat.le_of_ble_eq_true rfl) (Nat.le_of_ble_eq_true rfl)
  have hf := qif_f hf c_2
  by_cases c_5 : a1 = 2
  · have hf := qif_t hf c_5
    refine lv_tableIn (off := 84) (tgt := 85) hx hb dX5_account_1 (by rw [c_5]; decide) (by rw [c_5]; decide) (by rw [c_5]; decide) (by decide) ?_
    refine lv_aload_n hx hb dX5_account_85 rfl (lv_at hl 0 rfl) ?_
    refine qget_X5_0 hC hR qk_226 dX5_account_86 ?_
    refine lv_iconst (v := 2) hx hb dX5_account_89 (by decide) ?_
    obtain ⟨r7, hq6, hf⟩ := qbd_s hf
    refine q_callVi hC hR (mX0_countOf (qJ hC) (show 0 < 12 by decide) hq6) (by have := (show 0 < 12 by decide); omega) (qsh_hall G ad _ (show 0 < 12 by decide)) rfl qk_539 qk_417 qk_418 qk_20 qk_419 qhd_X0_countOf ⟨Nat.le_of_ble_eq_true rfl, Nat.le_of_ble_eq_true rfl⟩ hl.1 rfl (Nat.le_of_ble_eq_true rfl) dX5_account_90 ⟨Nat.le_of_ble_eq_true rfl, Nat.le_of_ble_eq_true rfl⟩ (fun H locs hR => ?_)
    exact qx_iret hC hR hr rfl (qso3 hf).1.symm (qso3 hf).2.1 (qso3 hf).2.2 dX5_account_93 (Nat.le_of_ble_eq_true rfl) (Nat.le_of_ble_eq_true rfl)
  have hf := qif_f hf c_5
  by_cases c_8 : a1 = 3
  · have hf := qif_t hf c_8
    refine lv_tableIn (off := 93) (tgt := 94) hx hb dX5_account_1 (by rw [c_8]; decide) (by rw [c_8]; decide) (by rw [c_8]; decide) (by decide) ?_
    refine lv_aload_n hx hb dX5_account_94 rfl (lv_at hl 0 rfl) ?_
    refine qget_X5_0 hC hR qk_226 dX5_account_95 ?_
    refine lv_iconst (v := 3) hx hb dX5_account_98 (by decide) ?_
    obtain ⟨r10, hq9, hf⟩ := qbd_s hf
    refine q_callVi hC hR (mX0_countOf (qJ hC) (show 0 < 12 by decide) hq9) (by have := (show 0 < 12 by decide); omega) (qsh_hall G ad _ (show 0 < 12 by decide)) rfl qk_539 qk_417 qk_418 qk_20 qk_419 qhd_X0_countOf ⟨Nat.le_of_ble_eq_true rfl, Nat.le_of_ble_eq_true rfl⟩ hl.1 rfl (Nat.le_of_ble_eq_true rfl) dX5_account_99 ⟨Nat.le_of_ble_eq_true rfl, Nat.le_of_ble_eq_true rfl⟩ (fun H locs hR => ?_)
    exact qx_iret hC hR hr rfl (qso3 hf).1.symm (qso3 hf).2.1 (qso3 hf).2.2 dX5_account_102 (Nat.le_of_ble_eq_true rfl) (Nat.le_of_ble_eq_true rfl)
  have hf := qif_f hf c_8
  by_cases c_11 : a1 = 4
  · have hf := qif_t hf c_11
    refine lv_tableIn (off := 102) (tgt := 103) hx hb dX5_account_1 (by rw [c_11]; decide) (by rw [c_11]; decide) (by rw [c_11]; decide) (by decide) ?_
    refine lv_aload_n hx hb dX5_account_103 rfl (lv_at hl 0 rfl) ?_
    refine qget_X5_0 hC hR qk_226 dX5_account_104 ?_
    obtain ⟨r13, hq12, hf⟩ := qbd_s hf
    refine q_callVi hC hR (mX0_countBroken (qJ hC) (show 0 < 12 by decide) hq12) (by have := (show 0 < 12 by decide); omega) (qsh_hall G ad _ (show 0 < 12 by decide)) rfl qk_540 qk_541 qk_542 qk_20 qk_543 qhd_X0_countBroken ⟨Nat.le_of_ble_eq_true rfl, Nat.le_of_ble_eq_true rfl⟩ hl.1 rfl (Nat.le_of_ble_eq_true rfl) dX5_account_107 ⟨Nat.le_of_ble_eq_true rfl, Nat.le_of_ble_eq_true rfl⟩ (fun H locs hR => ?_)
    exact qx_iret hC hR hr rfl (qso3 hf).1.symm (qso3 hf).2.1 (qso3 hf).2.2 dX5_account_110 (Nat.le_of_ble_eq_true rfl) (Nat.le_of_ble_eq_true rfl)
  have hf := qif_f hf c_11
  by_cases c_14 : a1 = 5
  · have hf := qif_t hf c_14
    refine lv_tableIn (off := 110) (tgt := 111) hx hb dX5_account_1 (by rw [c_14]; decide) (by rw [c_14]; decide) (by rw [c_14]; decide) (by decide) ?_
    refine lv_aload_n hx hb dX5_account_111 rfl (lv_at hl 0 rfl) ?_
    refine qget_X5_0 hC hR qk_226 dX5_account_112 ?_
    refine qget_X0_5 hC hR (show 0 < 12 by decide) qk_120 dX5_account_115 ?_
    exact qx_iret hC hR hr rfl (qso3 hf).1.symm (qso3 hf).2.1 (qso3 hf).2.2 dX5_account_118 (Nat.le_of_ble_eq_true rfl) (Nat.le_of_ble_eq_true rfl)
  have hf := qif_f hf c_14
  by_cases c_15 : a1 = 6
  · have hf := qif_t hf c_15
    refine lv_tableIn (off := 118) (tgt := 119) hx hb dX5_account_1 (by rw [c_15]; decide) (by rw [c_15]; decide) (by rw [c_15]; decide) (by decide) ?_
    refine lv_aload_n hx hb dX5_account_119 rfl (lv_at hl 0 rfl) ?_
    refine qget_X5_0 hC hR qk_226 dX5_account_120 ?_
    refine qget_X0_6 hC hR (show 0 < 12 by decide) qk_122 dX5_account_123 ?_
    exact qx_iret hC hR hr rfl (qso3 hf).1.symm (qso3 hf).2.1 (qso3 hf).2.2 dX5_account_126 (Nat.le_of_ble_eq_true rfl) (Nat.le_of_ble_eq_true rfl)
  have hf := qif_f hf c_15
  by_cases c_16 : a1 = 7
  · have hf := qif_t hf c_16
    refine lv_tableIn (off := 126) (tgt := 127) hx hb dX5_account_1 (by rw [c_16]; decide) (by rw [c_16]; decide) (by rw [c_16]; decide) (by decide) ?_
    refine lv_aload_n hx hb dX5_account_127 rfl (lv_at hl 0 rfl) ?_
    refine qget_X5_0 hC hR qk_226 dX5_account_128 ?_
    refine qget_X0_7 hC hR (show 0 < 12 by decide) qk_124 dX5_account_131 ?_
    exact qx_iret hC hR hr rfl (qso3 hf).1.symm (qso3 hf).2.1 (qso3 hf).2.2 dX5_account_134 (Nat.le_of_ble_eq_true rfl) (Nat.le_of_ble_eq_true rfl)
  have hf := qif_f hf c_16
  by_cases c_17 : a1 = 8
  · have hf := qif_t hf c_17
    refine lv_tableIn (off := 134) (tgt := 135) hx hb dX5_account_1 (by rw [c_17]; decide) (by rw [c_17]; decide) (by rw [c_17]; decide) (by decide) ?_
    refine lv_aload_n hx hb dX5_account_135 rfl (lv_at hl 0 rfl) ?_
    refine qget_X5_0 hC hR qk_226 dX5_account_136 ?_
    refine qget_X0_8 hC hR (show 0 < 12 by decide) qk_126 dX5_account_139 ?_
    exact qx_iret hC hR hr rfl (qso3 hf).1.symm (qso3 hf).2.1 (qso3 hf).2.2 dX5_account_142 (Nat.le_of_ble_eq_true rfl) (Nat.le_of_ble_eq_true rfl)
  have hf := qif_f hf c_17
  by_cases c_18 : a1 = 9
  · have hf := qif_t hf c_18
    refine lv_tableIn (off := 142) (tgt := 143) hx hb dX5_account_1 (by rw [c_18]; decide) (by rw [c_18]; decide) (by rw [c_18]; decide) (by decide) ?_
    refine lv_aload_n hx hb dX5_account_143 rfl (lv_at hl 0 rfl) ?_
    refine qget_X5_0 hC hR qk_226 dX5_account_144 ?_
    refine qget_X0_9 hC hR (show 0 < 12 by decide) qk_128 dX5_account_147 ?_
    exact qx_iret hC hR hr rfl (qso3 hf).1.symm (qso3 hf).2.1 (qso3 hf).2.2 dX5_account_150 (Nat.le_of_ble_eq_true rfl) (Nat.le_of_ble_eq_true rfl)
  have hf := qif_f hf c_18
  by_cases c_19 : a1 = 10
  · have hf := qif_t hf c_19
    refine lv_tableIn (off := 150) (tgt := 151) hx hb dX5_account_1 (by rw [c_19]; decide) (by rw [c_19]; decide) (by rw [c_19]; decide) (by decide) ?_
    refine lv_aload_n hx hb dX5_account_151 rfl (lv_at hl 0 rfl) ?_
    refine qget_X5_0 hC hR qk_226 dX5_account_152 ?_
    refine qget_X0_4 hC hR (show 0 < 12 by decide) qk_118 dX5_account_155 ?_
    exact qx_iret hC hR hr rfl (qso3 hf).1.symm (qso3 hf).2.1 (qso3 hf).2.2 dX5_account_158 (Nat.le_of_ble_eq_true rfl) (Nat.le_of_ble_eq_true rfl)
  have hf := qif_f hf c_19
  by_cases c_20 : a1 = 11
  · have hf := qif_t hf c_20
    refine lv_tableIn (off := 158) (tgt := 159) hx hb dX5_account_1 (by rw [c_20]; decide) (by rw [c_20]; decide) (by rw [c_20]; decide) (by decide) ?_
    refine lv_aload_n hx hb dX5_account_159 rfl (lv_at hl 0 rfl) ?_
    refine qget_X5_4 hC hR qk_230 dX5_account_160 ?_
    refine qget_X4_1 hC hR qk_189 dX5_account_163 ?_
    exact qx_iret hC hR hr rfl (qso3 hf).1.symm (qso3 hf).2.1 (qso3 hf).2.2 dX5_account_166 (Nat.le_of_ble_eq_true rfl) (Nat.le_of_ble_eq_true rfl)
  have hf := qif_f hf c_20
  by_cases c_21 : a1 = 12
  · have hf := qif_t hf c_21
    refine lv_tableIn (off := 166) (tgt := 167) hx hb dX5_account_1 (by rw [c_21]; decide) (by rw [c_21]; decide) (by rw [c_21]; decide) (by decide) ?_
    refine lv_aload_n hx hb dX5_account_167 rfl (lv_at hl 0 rfl) ?_
    refine qget_X5_3 hC hR qk_229 dX5_account_168 ?_
    refine qget_X1_2 hC hR qk_173 dX5_account_171 ?_
    exact qx_iret hC hR hr rfl (qso3 hf).1.symm (qso3 hf).2.1 (qso3 hf).2.2 dX5_account_174 (Nat.le_of_ble_eq_true rfl) (Nat.le_of_ble_eq_true rfl)
  have hf := qif_f hf c_21
  refine lv_tableOut (tgt := 175) hx hb dX5_account_1 (by have hc_1 := qne (z := 0) c_1 rfl; have hc_2 := qne (z := 1) c_2 rfl; have hc_5 := qne (z := 2) c_5 rfl; have hc_8 := qne (z := 3) c_8 rfl; have hc_11 := qne (z := 4) c_11 rfl; have hc_14 := qne (z := 5) c_14 rfl; have hc_15 := qne (z := 6) c_15 rfl; have hc_16 := qne (z := 7) c_16 rfl; have hc_17 := qne (z := 8) c_17 rfl; have hc_18 := qne (z := 9) c_18 rfl; have hc_19 := qne (z := 10) c_19 rfl; have hc_20 := qne (z := 11) c_20 rfl; have hc_21 := qne (z := 12) c_21 rfl; omega) (by decide) ?_
  exact q_throwW hC hR hst ht (code := cF) (E := "java/lang/IllegalArgumentException") (text := "what is not from 0 to 12") (ik := 74) (is := 271) (ic := 78) (i := 22) (by rw [← (qso3 hf).1]; rfl) (by rw [← (qso3 hf).1]; decide) (qso3 hf).2.2 (by decide +kernel) qk_433 qxi_78 (by decide +kernel) qxw_78 hl.1 dX5_account_175 dX5_account_178 dX5_account_179 dX5_account_182 dX5_account_185 (Nat.le_of_ble_eq_true rfl) (Nat.le_of_ble_eq_true rfl) (Nat.le_of_ble_eq_true rfl) (Nat.le_of_ble_eq_true rfl) (Nat.le_of_ble_eq_true rfl) (Nat.le_of_ble_eq_true rfl)
-- X5.undo
def fX5_undo (w : qMem)   : Option (Nat × Int32 × qMem) :=
  if w 229 2 = 0 then
    some (5, 0, w)
  else
    qbd (fX1_stepBack w 0) fun (w3 : qMem) =>
    some (0, w3 229 2, w3)
theorem qhd_X5_undo : yX5_undo.cls ≠ "java/lang/invoke/MethodHandle" ∧ yX5_undo.cls ≠ "java/lang/invoke/VarHandle" ∧ (parseMethodDescriptor yX5_undo.desc).map (fun d => d.parameters.length) = some 0 := ⟨by decide +kernel, by decide +kernel, by decide +kernel⟩
set_option maxHeartbeats 4000000 in
set_option maxRecDepth 100000 in
theorem mX5_undo {l : Launch} {D : va_G} {G : Nat → ClassId} {ad : Nat → Nat} (hJ : qInj ad) (hst : l.stackTraces = false) {w : qMem}    {cF : Nat} {rF : Int32} {wF : qMem} (hf : fX5_undo w = some (cF, rF, wF)) : qCX l D G ad yX5_undo cX5_undo 1 (some .int) 6 1 6 [.ref (ad 228)] w (fun st => qxQI D G ad st cF rF wF) cF wF := by
  refine qx_start RX5 rfl (by decide +kernel) hJ (fun a b h => by simp only [qxQI, qxQV, qxQR, qxQD, qxQF, h]) (Nat.le_of_ble_eq_true rfl) ?_
  intro p e s m args below meth c0 ls hC hr ht hR hl
  have hx := hC.1
  have hb := hC.2.1
  have hl : lv_has ls 1 [(0, .ref (ad 228))] := hl
  unfold fX5_undo at hf
  refine lv_aload_n hx hb dX5_undo_0 rfl (lv_at hl 0 rfl) ?_
  refine qget_X5_3 hC hR qk_229 dX5_undo_1 ?_
  refine qget_X1_2 hC hR qk_173 dX5_undo_4 ?_
  refine lv_if_ne (tgt := 21) hx hb dX5_undo_7 (by decide) (fun c_1 => ?_) (fun c_1 => ?_)
  · have hf := qif_f hf c_1
    refine lv_aload_n hx hb dX5_undo_21 rfl (lv_at hl 0 rfl) ?_
    refine qget_X5_3 hC hR qk_229 dX5_undo_22 ?_
    refine lv_aload_n hx hb dX5_undo_25 rfl (lv_at hl 0 rfl) ?_
    refine qget_X5_0 hC hR qk_226 dX5_undo_26 ?_
    obtain ⟨w3, hq2, hf⟩ := qbd_s hf
    refine q_callVv hC hR (mX1_stepBack (qJ hC) (show 0 < 12 by decide) hq2) (by decide) (qsh_229 G ad _) rfl qk_1340 qk_1341 qk_1342 qk_22 qk_1343 qhd_X1_stepBack ⟨Nat.le_of_ble_eq_true rfl, Nat.le_of_ble_eq_true rfl⟩ hl.1 rfl (Nat.le_of_ble_eq_true rfl) dX5_undo_29 ⟨Nat.le_of_ble_eq_true rfl, Nat.le_of_ble_eq_true rfl⟩ (fun H locs hR => ?_)
    refine lv_aload_n hx hb dX5_undo_32 rfl (lv_at hl 0 rfl) ?_
    refine qget_X5_3 hC hR qk_229 dX5_undo_33 ?_
    refine qget_X1_2 hC hR qk_173 dX5_undo_36 ?_
    exact qx_iret hC hR hr rfl (qso3 hf).1.symm (qso3 hf).2.1 (qso3 hf).2.2 dX5_undo_39 (Nat.le_of_ble_eq_true rfl) (Nat.le_of_ble_eq_true rfl)
  · have hf := qif_t hf c_1
    exact q_throwW hC hR hst ht (code := cF) (E := "java/lang/IllegalStateException") (text := "no change can be undone") (ik := 206) (is := 293) (ic := 210) (i := 44) (by rw [← (qso3 hf).1]; rfl) (by rw [← (qso3 hf).1]; decide) (qso3 hf).2.2 (by decide +kernel) qk_1238 qxi_210 (by decide +kernel) qxw_210 hl.1 dX5_undo_10 dX5_undo_13 dX5_undo_14 dX5_undo_17 dX5_undo_20 (Nat.le_of_ble_eq_true rfl) (Nat.le_of_ble_eq_true rfl) (Nat.le_of_ble_eq_true rfl) (Nat.le_of_ble_eq_true rfl) (Nat.le_of_ble_eq_true rfl) (Nat.le_of_ble_eq_true rfl)
-- X5.requireStrength
def fX5_requireStrength (w : qMem)  (a1 : Int32) : Option (Nat × qMem) :=
  qbd (fX5_isStrength w a1) fun (r2 : Int32) =>
  if r2 = 0 then
    some (1, w)
  else
    some (0, w)
theorem qhd_X5_requireStrength : yX5_requireStrength.cls ≠ "java/lang/invoke/MethodHandle" ∧ yX5_requireStrength.cls ≠ "java/lang/invoke/VarHandle" ∧ (parseMethodDescriptor yX5_requireStrength.desc).map (fun d => d.parameters.length) = some 1 := ⟨by decide +kernel, by decide +kernel, by decide +kernel⟩
set_option maxHeartbeats 4000000 in
set_option maxRecDepth 100000 in
theorem mX5_requireStrength {l : Launch} {D : va_G} {G : Nat → ClassId} {ad : Nat → Nat} (hJ : qInj ad) (hst : l.stackTraces = false) {w : qMem}   {a1 : Int32} {cF : Nat} {wF : qMem} (hf : fX5_requireStrength w a1 = some (cF, wF)) : qCX l D G ad yX5_requireStrength cX5_requireStrength 1 (none) 6 1 6 [.int a1] w (fun st => qxQV D G ad st cF wF) cF wF := by
  refine qx_start RX5 rfl (by decide +kernel) hJ (fun a b h => by simp only [qxQI, qxQV, qxQR, qxQD, qxQF, h]) (Nat.le_of_ble_eq_true rfl) ?_
  intro p e s m args below meth c0 ls hC hr ht hR hl
  have hx := hC.1
  have hb := hC.2.1
  have hl : lv_has ls 1 [(0, .int a1)] := hl
  unfold fX5_requireStrength at hf
  refine lv_iload_n hx hb dX5_requireStrength_0 rfl (lv_at hl 0 rfl) ?_
  obtain ⟨r2, hq1, hf⟩ := qbd_s hf
  refine q_callSi hC hR (mX5_isStrength (qJ hC) hq1) qk_340 qk_341 qk_19 qk_342 qhd_X5_isStrength ⟨Nat.le_of_ble_eq_true rfl, Nat.le_of_ble_eq_true rfl⟩ hl.1 rfl (Nat.le_of_ble_eq_true rfl) dX5_requireStrength_1 ⟨Nat.le_of_ble_eq_true rfl, Nat.le_of_ble_eq_true rfl⟩ (fun H locs hR => ?_)
  refine lv_if_ne (tgt := 18) hx hb dX5_requireStrength_4 (by decide) (fun c_3 => ?_) (fun c_3 => ?_)
  · have hf := qif_f hf c_3
    exact qx_vret hC hR hr (qso2 hf).1.symm (qso2 hf).2 dX5_requireStrength_18 (Nat.le_of_ble_eq_true rfl) (Nat.le_of_ble_eq_true rfl)
  · have hf := qif_t hf c_3
    exact q_throwW hC hR hst ht (code := cF) (E := "java/lang/IllegalArgumentException") (text := "the strength is not from 1 to 9") (ik := 74) (is := 300) (ic := 78) (i := 27) (by rw [← (qso2 hf).1]; rfl) (by rw [← (qso2 hf).1]; decide) (qso2 hf).2 (by decide +kernel) qk_433 qxi_78 (by decide +kernel) qxw_78 hl.1 dX5_requireStrength_7 dX5_requireStrength_10 dX5_requireStrength_11 dX5_requireStrength_14 dX5_requireStrength_17 (Nat.le_of_ble_eq_true rfl) (Nat.le_of_ble_eq_true rfl) (Nat.le_of_ble_eq_true rfl) (Nat.le_of_ble_eq_true rfl) (Nat.le_of_ble_eq_true rfl) (Nat.le_of_ble_eq_true rfl)
-- X5.propNumbered
def fX5_propNumbered (w : qMem)  (a1 : Int32) : Option (Nat × Nat × qMem) :=
  if a1 < 0 then
    some (3, 0, w)
  else
    if a1 < w 0 2 then
      qbd (fX0_propAt w 0 a1) fun (r4 : Nat) =>
      if qisPb r4 = true then
      some (0, r4, w)
      else none
    else
      some (3, 0, w)
theorem qhd_X5_propNumbered : yX5_propNumbered.cls ≠ "java/lang/invoke/MethodHandle" ∧ yX5_propNumbered.cls ≠ "java/lang/invoke/VarHandle" ∧ (parseMethodDescriptor yX5_propNumbered.desc).map (fun d => d.parameters.length) = some 1 := ⟨by decide +kernel, by decide +kernel, by decide +kernel⟩
set_option maxHeartbeats 4000000 in
set_option maxRecDepth 100000 in
theorem mX5_propNumbered {l : Launch} {D : va_G} {G : Nat → ClassId} {ad : Nat → Nat} (hJ : qInj ad) (hst : l.stackTraces = false) {w : qMem}   {a1 : Int32} {cF : Nat} {rF : Nat} {wF : qMem} (hf : fX5_propNumbered w a1 = some (cF, rF, wF)) : qCX l D G ad yX5_propNumbered cX5_propNumbered 2 (some (.object "QuakeRehearsal$Prop")) 6 1 6 [.ref (ad 228), .int a1] w (fun st => qxQR D G ad st cF rF wF) cF wF := by
  refine qx_start RX5 rfl (by decide +kernel) hJ (fun a b h => by simp only [qxQI, qxQV, qxQR, qxQD, qxQF, h]) (Nat.le_of_ble_eq_true rfl) ?_
  intro p e s m args below meth c0 ls hC hr ht hR hl
  have hx := hC.1
  have hb := hC.2.1
  have hl : lv_has ls 2 [(0, .ref (ad 228)), (1, .int a1)] := hl
  unfold fX5_propNumbered at hf
  refine lv_iload_n hx hb dX5_propNumbered_0 rfl (lv_at hl 1 rfl) ?_
  refine lv_if_lt (tgt := 15) hx hb dX5_propNumbered_1 (by decide) (fun c_1 => ?_) (fun c_1 => ?_)
  · have hf := qif_t hf c_1
    exact q_throw hC hR hst ht (code := cF) (E := "java/lang/IndexOutOfBoundsException") (text := "no such prop") (ik := 67) (is := 69) (ic := 71) (i := 24) (by rw [← (qso3 hf).1]; rfl) (by rw [← (qso3 hf).1]; decide) (qso3 hf).2.2 (by decide +kernel) qk_600 qxi_71 (by decide +kernel) qxw_71 hl.1 dX5_propNumbered_15 dX5_propNumbered_18 dX5_propNumbered_19 dX5_propNumbered_21 dX5_propNumbered_24 (Nat.le_of_ble_eq_true rfl) (Nat.le_of_ble_eq_true rfl) (Nat.le_of_ble_eq_true rfl) (Nat.le_of_ble_eq_true rfl) (Nat.le_of_ble_eq_true rfl) (Nat.le_of_ble_eq_true rfl)
  · have hf := qif_f hf c_1
    refine lv_iload_n hx hb dX5_propNumbered_4 rfl (lv_at hl 1 rfl) ?_
    refine lv_aload_n hx hb dX5_propNumbered_5 rfl (lv_at hl 0 rfl) ?_
    refine qget_X5_0 hC hR qk_226 dX5_propNumbered_6 ?_
    refine qget_X0_2 hC hR (show 0 < 12 by decide) qk_114 dX5_propNumbered_9 ?_
    refine lv_icmp_lt (tgt := 25) hx hb dX5_propNumbered_12 (by decide) (fun c_2 => ?_) (fun c_2 => ?_)
    · have hf := qif_t hf c_2
      refine lv_aload_n hx hb dX5_propNumbered_25 rfl (lv_at hl 0 rfl) ?_
      refine qget_X5_0 hC hR qk_226 dX5_propNumbered_26 ?_
      refine lv_iload_n hx hb dX5_propNumbered_29 rfl (lv_at hl 1 rfl) ?_
      obtain ⟨r4, hq3, hf⟩ := qbd_s hf
      obtain ⟨g5, hf⟩ := qgd hf
      refine q_callVr hC hR (mX0_propAt (qJ hC) (show 0 < 12 by decide) hq3) (by have := (show 0 < 12 by decide); omega) (qsh_hall G ad _ (show 0 < 12 by decide)) rfl qk_343 qk_290 qk_291 qk_20 qk_292 qhd_X0_propAt ⟨Nat.le_of_ble_eq_true rfl, Nat.le_of_ble_eq_true rfl⟩ hl.1 rfl (Nat.le_of_ble_eq_true rfl) dX5_propNumbered_30 ⟨Nat.le_of_ble_eq_true rfl, Nat.le_of_ble_eq_true rfl⟩ (fun H locs hR => ?_)
      exact qx_aret hC hR hr (qso3 hf).1.symm (qso3 hf).2.1 (qso3 hf).2.2 dX5_propNumbered_33 (Nat.le_of_ble_eq_true rfl) (Nat.le_of_ble_eq_true rfl)
    · have hf := qif_f hf c_2
      exact q_throw hC hR hst ht (code := cF) (E := "java/lang/IndexOutOfBoundsException") (text := "no such prop") (ik := 67) (is := 69) (ic := 71) (i := 24) (by rw [← (qso3 hf).1]; rfl) (by rw [← (qso3 hf).1]; decide) (qso3 hf).2.2 (by decide +kernel) qk_600 qxi_71 (by decide +kernel) qxw_71 hl.1 dX5_propNumbered_15 dX5_propNumbered_18 dX5_propNumbered_19 dX5_propNumbered_21 dX5_propNumbered_24 (Nat.le_of_ble_eq_true rfl) (Nat.le_of_ble_eq_true rfl) (Nat.le_of_ble_eq_true rfl) (Nat.le_of_ble_eq_true rfl) (Nat.le_of_ble_eq_true rfl) (Nat.le_of_ble_eq_true rfl)
-- X5.numberInOrder
def fX5_numberInOrder (w : qMem)  (a1 : Int32) (a2 : Int32) : Option (Nat × Int32 × qMem) :=
  qbd (fX0_numberInOrder w 0 a1 a2) fun (r2 : Int32) =>
  if 0 ≤ r2 then
    some (0, r2, w)
  else
    some (4, 0, w)
theorem qhd_X5_numberInOrder : yX5_numberInOrder.cls ≠ "java/lang/invoke/MethodHandle" ∧ yX5_numberInOrder.cls ≠ "java/lang/invoke/VarHandle" ∧ (parseMethodDescriptor yX5_numberInOrder.desc).map (fun d => d.parameters.length) = some 2 := ⟨by decide +kernel, by decide +kernel, by decide +kernel⟩
set_option maxHeartbeats 4000000 in
set_option maxRecDepth 100000 in
theorem mX5_numberInOrder {l : Launch} {D : va_G} {G : Nat → ClassId} {ad : Nat → Nat} (hJ : qInj ad) (hst : l.stackTraces = false) {w : qMem}   {a1 : Int32} {a2 : Int32} {cF : Nat} {rF : Int32} {wF : qMem} (hf : fX5_numberInOrder w a1 a2 = some (cF, rF, wF)) : qCX l D G ad yX5_numberInOrder cX5_numberInOrder 4 (some .int) 6 1 6 [.ref (ad 228), .int a1, .int a2] w (fun st => qxQI D G ad st cF rF wF) cF wF := by
  refine qx_start RX5 rfl (by decide +kernel) hJ (fun a b h => by simp only [qxQI, qxQV, qxQR, qxQD, qxQF, h]) (Nat.le_of_ble_eq_true rfl) ?_
  intro p e s m args below meth c0 ls hC hr ht hR hl
  have hx := hC.1
  have hb := hC.2.1
  have hl : lv_has ls 4 [(0, .ref (ad 228)), (1, .int a1), (2, .int a2)] := hl
  unfold fX5_numberInOrder at hf
  refine lv_aload_n hx hb dX5_numberInOrder_0 rfl (lv_at hl 0 rfl) ?_
  refine qget_X5_0 hC hR qk_226 dX5_numberInOrder_1 ?_
  refine lv_iload_n hx hb dX5_numberInOrder_4 rfl (lv_at hl 1 rfl) ?_
  refine lv_iload_n hx hb dX5_numberInOrder_5 rfl (lv_at hl 2 rfl) ?_
  obtain ⟨r2, hq1, hf⟩ := qbd_s hf
  refine q_callVi hC hR (mX0_numberInOrder (qJ hC) (show 0 < 12 by decide) hq1) (by have := (show 0 < 12 by decide); omega) (qsh_hall G ad _ (show 0 < 12 by decide)) rfl qk_793 qk_794 qk_795 qk_20 qk_796 qhd_X0_numberInOrder ⟨Nat.le_of_ble_eq_true rfl, Nat.le_of_ble_eq_true rfl⟩ hl.1 rfl (Nat.le_of_ble_eq_true rfl) dX5_numberInOrder_6 ⟨Nat.le_of_ble_eq_true rfl, Nat.le_of_ble_eq_true rfl⟩ (fun H locs hR => ?_)
  refine lv_istore_n (lv' := [(3, .int r2), (0, .ref (ad 228)), (1, .int a1), (2, .int a2)]) hx hb dX5_numberInOrder_9 rfl hl (by decide) rfl (fun ls hl => ?_)
  refine lv_iload_n hx hb dX5_numberInOrder_10 rfl (lv_at hl 0 rfl) ?_
  refine lv_if_ge (tgt := 25) hx hb dX5_numberInOrder_11 (by decide) (fun c_3 => ?_) (fun c_3 => ?_)
  · have hf := qif_t hf c_3
    refine lv_iload_n hx hb dX5_numberInOrder_25 rfl (lv_at hl 0 rfl) ?_
    exact qx_iret hC hR hr rfl (qso3 hf).1.symm (qso3 hf).2.1 (qso3 hf).2.2 dX5_numberInOrder_26 (Nat.le_of_ble_eq_true rfl) (Nat.le_of_ble_eq_true rfl)
  · have hf := qif_f hf c_3
    exact q_throwNW hC hR hst ht (code := cF) (E := "java/util/NoSuchElementException") (text := "no such place in the order") (ik := 122) (is := 303) (ic := 126) (i := 33) (by rw [← (qso3 hf).1]; rfl) (by rw [← (qso3 hf).1]; decide) (qso3 hf).2.2 (by decide +kernel) qk_553 qxi_126 (by decide +kernel) qxw_126 hl.1 dX5_numberInOrder_14 dX5_numberInOrder_17 dX5_numberInOrder_18 dX5_numberInOrder_21 dX5_numberInOrder_24 (Nat.le_of_ble_eq_true rfl) (Nat.le_of_ble_eq_true rfl) (Nat.le_of_ble_eq_true rfl) (Nat.le_of_ble_eq_true rfl) (Nat.le_of_ble_eq_true rfl) (Nat.le_of_ble_eq_true rfl)
-- X5.answered
def fX5_answered (w : qMem)  (a1 : Int32) : Option (Int32 × qMem) :=
  qnm (quw w 228 10 a1) fun (w1 : qMem) =>
  some (0, w1)
theorem qhd_X5_answered : yX5_answered.cls ≠ "java/lang/invoke/MethodHandle" ∧ yX5_answered.cls ≠ "java/lang/invoke/VarHandle" ∧ (parseMethodDescriptor yX5_answered.desc).map (fun d => d.parameters.length) = some 1 := ⟨by decide +kernel, by decide +kernel, by decide +kernel⟩
set_option maxHeartbeats 4000000 in
set_option maxRecDepth 100000 in
theorem mX5_answered {l : Launch} {D : va_G} {G : Nat → ClassId} {ad : Nat → Nat} (hJ : qInj ad) {w : qMem}   {a1 : Int32} {rF : Int32} {wF : qMem} (hf : fX5_answered w a1 = some (rF, wF)) : qCMi l D G ad yX5_answered cX5_answered 2 (some .int) 1 0 0 [.ref (ad 228), .int a1] w rF wF := by
  refine q_start RX5 rfl (by decide +kernel) hJ (fun a b h => by simp only [qQI, qQV, qQR, qQD, qQF, h]) (Nat.le_of_ble_eq_true rfl) ?_
  intro p e s m args below meth c0 ls hC hr hR hl
  have hx := hC.1
  have hb := hC.2.1
  have hl : lv_has ls 2 [(0, .ref (ad 228)), (1, .int a1)] := hl
  unfold fX5_answered at hf
  refine lv_aload_n hx hb dX5_answered_0 rfl (lv_at hl 0 rfl) ?_
  refine lv_iload_n hx hb dX5_answered_1 rfl (lv_at hl 1 rfl) ?_
  refine qput_X5_10 hC hR qk_236 ⟨rfl, rfl⟩ dX5_answered_2 (fun w1 H locs ew1 hR => ?_)
  have hf := qnm_t hf ew1
  refine lv_iconst (v := 0) hx hb dX5_answered_5 (by decide) ?_
  exact q_iret hC hR hr rfl (qso2 hf).1 (qso2 hf).2 dX5_answered_6
-- X5.refuse
def fX5_refuse (w : qMem)  (a1 : Int32) (a2 : Int32) : Option (Int32 × qMem) :=
  qnm (quw w 228 8 a1) fun (w1 : qMem) =>
  qnm (quw w1 228 9 a2) fun (w2 : qMem) =>
  some (3, w2)
theorem qhd_X5_refuse : yX5_refuse.cls ≠ "java/lang/invoke/MethodHandle" ∧ yX5_refuse.cls ≠ "java/lang/invoke/VarHandle" ∧ (parseMethodDescriptor yX5_refuse.desc).map (fun d => d.parameters.length) = some 2 := ⟨by decide +kernel, by decide +kernel, by decide +kernel⟩
set_option maxHeartbeats 4000000 in
set_option maxRecDepth 100000 in
theorem mX5_refuse {l : Launch} {D : va_G} {G : Nat → ClassId} {ad : Nat → Nat} (hJ : qInj ad) {w : qMem}   {a1 : Int32} {a2 : Int32} {rF : Int32} {wF : qMem} (hf : fX5_refuse w a1 a2 = some (rF, wF)) : qCMi l D G ad yX5_refuse cX5_refuse 3 (some .int) 1 0 0 [.ref (ad 228), .int a1, .int a2] w rF wF := by
  refine q_start RX5 rfl (by decide +kernel) hJ (fun a b h => by simp only [qQI, qQV, qQR, qQD, qQF, h]) (Nat.le_of_ble_eq_true rfl) ?_
  intro p e s m args below meth c0 ls hC hr hR hl
  have hx := hC.1
  have hb := hC.2.1
  have hl : lv_has ls 3 [(0, .ref (ad 228)), (1, .int a1), (2, .int a2)] := hl
  unfold fX5_refuse at hf
  refine lv_aload_n hx hb dX5_refuse_0 rfl (lv_at hl 0 rfl) ?_
  refine lv_iload_n hx hb dX5_refuse_1 rfl (lv_at hl 1 rfl) ?_
  refine qput_X5_8 hC hR qk_234 ⟨rfl, rfl⟩ dX5_refuse_2 (fun w1 H locs ew1 hR => ?_)
  have hf := qnm_t hf ew1
  refine lv_aload_n hx hb dX5_refuse_5 rfl (lv_at hl 0 rfl) ?_
  refine lv_iload_n hx hb dX5_refuse_6 rfl (lv_at hl 2 rfl) ?_
  refine qput_X5_9 hC hR qk_235 ⟨rfl, rfl⟩ dX5_refuse_7 (fun w2 H locs ew2 hR => ?_)
  have hf := qnm_t hf ew2
  refine lv_iconst (v := 3) hx hb dX5_refuse_10 (by decide) ?_
  exact q_iret hC hR hr rfl (qso2 hf).1 (qso2 hf).2 dX5_refuse_11
-- X5.marksInThought
def fX5_marksInThought (w : qMem)  (a1 : Int32) : Option (Int32 × qMem) :=
  qbd (fX0_copyFrom w 1 0) fun (w2 : qMem) =>
  qbd2 (fX0_performShock w2 1 a1) fun (r4 : Int32) (w5 : qMem) =>
  some (r4, w5)
theorem qhd_X5_marksInThought : yX5_marksInThought.cls ≠ "java/lang/invoke/MethodHandle" ∧ yX5_marksInThought.cls ≠ "java/lang/invoke/VarHandle" ∧ (parseMethodDescriptor yX5_marksInThought.desc).map (fun d => d.parameters.length) = some 1 := ⟨by decide +kernel, by decide +kernel, by decide +kernel⟩
set_option maxHeartbeats 4000000 in
set_option maxRecDepth 100000 in
theorem mX5_marksInThought {l : Launch} {D : va_G} {G : Nat → ClassId} {ad : Nat → Nat} (hJ : qInj ad) {w : qMem}   {a1 : Int32} {rF : Int32} {wF : qMem} (hf : fX5_marksInThought w a1 = some (rF, wF)) : qCMi l D G ad yX5_marksInThought cX5_marksInThought 2 (some .int) 5 0 0 [.ref (ad 228), .int a1] w rF wF := by
  refine q_start RX5 rfl (by decide +kernel) hJ (fun a b h => by simp only [qQI, qQV, qQR, qQD, qQF, h]) (Nat.le_of_ble_eq_true rfl) ?_
  intro p e s m args below meth c0 ls hC hr hR hl
  have hx := hC.1
  have hb := hC.2.1
  have hl : lv_has ls 2 [(0, .ref (ad 228)), (1, .int a1)] := hl
  unfold fX5_marksInThought at hf
  refine lv_aload_n hx hb dX5_marksInThought_0 rfl (lv_at hl 0 rfl) ?_
  refine qget_X5_1 hC hR qk_227 dX5_marksInThought_1 ?_
  refine lv_aload_n hx hb dX5_marksInThought_4 rfl (lv_at hl 0 rfl) ?_
  refine qget_X5_0 hC hR qk_226 dX5_marksInThought_5 ?_
  obtain ⟨w2, hq1, hf⟩ := qbd_s hf
  refine q_callVv hC hR (mX0_copyFrom (qJ hC) (show 1 < 12 by decide) (show 0 < 12 by decide) hq1) (by have := (show 1 < 12 by decide); omega) (qsh_hall G ad _ (show 1 < 12 by decide)) rfl qk_700 qk_286 qk_287 qk_20 qk_288 qhd_X0_copyFrom ⟨Nat.le_of_ble_eq_true rfl, Nat.le_of_ble_eq_true rfl⟩ hl.1 rfl (Nat.le_of_ble_eq_true rfl) dX5_marksInThought_8 ⟨Nat.zero_le _, Nat.zero_le _⟩ (fun H locs hR => ?_)
  refine lv_aload_n hx hb dX5_marksInThought_11 rfl (lv_at hl 0 rfl) ?_
  refine qget_X5_1 hC hR qk_227 dX5_marksInThought_12 ?_
  refine lv_iload_n hx hb dX5_marksInThought_15 rfl (lv_at hl 1 rfl) ?_
  obtain ⟨r4, w5, hq3, hf⟩ := qbd2_s hf
  refine q_callVi hC hR (mX0_performShock (qJ hC) (show 1 < 12 by decide) hq3) (by have := (show 1 < 12 by decide); omega) (qsh_hall G ad _ (show 1 < 12 by decide)) rfl qk_348 qk_349 qk_350 qk_20 qk_351 qhd_X0_performShock ⟨Nat.le_of_ble_eq_true rfl, Nat.le_of_ble_eq_true rfl⟩ hl.1 rfl (Nat.le_of_ble_eq_true rfl) dX5_marksInThought_16 ⟨Nat.zero_le _, Nat.zero_le _⟩ (fun H locs hR => ?_)
  exact q_iret hC hR hr rfl (qso2 hf).1 (qso2 hf).2 dX5_marksInThought_19
-- X5.breakagesInThought
def fX5_breakagesInThought (w : qMem)  (a1 : Int32) : Option (Int32 × qMem) :=
  qbd (fX0_copyFrom w 1 0) fun (w2 : qMem) =>
  qbd2 (fX0_performShock w2 1 a1) fun (r4 : Int32) (w5 : qMem) =>
  some ((w5 19 9) - (w5 0 9), w5)
theorem qhd_X5_breakagesInThought : yX5_breakagesInThought.cls ≠ "java/lang/invoke/MethodHandle" ∧ yX5_breakagesInThought.cls ≠ "java/lang/invoke/VarHandle" ∧ (parseMethodDescriptor yX5_breakagesInThought.desc).map (fun d => d.parameters.length) = some 1 := ⟨by decide +kernel, by decide +kernel, by decide +kernel⟩
set_option maxHeartbeats 4000000 in
set_option maxRecDepth 100000 in
theorem mX5_breakagesInThought {l : Launch} {D : va_G} {G : Nat → ClassId} {ad : Nat → Nat} (hJ : qInj ad) {w : qMem}   {a1 : Int32} {rF : Int32} {wF : qMem} (hf : fX5_breakagesInThought w a1 = some (rF, wF)) : qCMi l D G ad yX5_breakagesInThought cX5_breakagesInThought 2 (some .int) 5 0 0 [.ref (ad 228), .int a1] w rF wF := by
  refine q_start RX5 rfl (by decide +kernel) hJ (fun a b h => by simp only [qQI, qQV, qQR, qQD, qQF, h]) (Nat.le_of_ble_eq_true rfl) ?_
  intro p e s m args below meth c0 ls hC hr hR hl
  have hx := hC.1
  have hb := hC.2.1
  have hl : lv_has ls 2 [(0, .ref (ad 228)), (1, .int a1)] := hl
  unfold fX5_breakagesInThought at hf
  refine lv_aload_n hx hb dX5_breakagesInThought_0 rfl (lv_at hl 0 rfl) ?_
  refine qget_X5_1 hC hR qk_227 dX5_breakagesInThought_1 ?_
  refine lv_aload_n hx hb dX5_breakagesInThought_4 rfl (lv_at hl 0 rfl) ?_
  refine qget_X5_0 hC hR qk_226 dX5_breakagesInThought_5 ?_
  obtain ⟨w2, hq1, hf⟩ := qbd_s hf
  refine q_callVv hC hR (mX0_copyFrom (qJ hC) (show 1 < 12 by decide) (show 0 < 12 by decide) hq1) (by have := (show 1 < 12 by decide); omega) (qsh_hall G ad _ (show 1 < 12 by decide)) rfl qk_700 qk_286 qk_287 qk_20 qk_288 qhd_X0_copyFrom ⟨Nat.le_of_ble_eq_true rfl, Nat.le_of_ble_eq_true rfl⟩ hl.1 rfl (Nat.le_of_ble_eq_true rfl) dX5_breakagesInThought_8 ⟨Nat.zero_le _, Nat.zero_le _⟩ (fun H locs hR => ?_)
  refine lv_aload_n hx hb dX5_breakagesInThought_11 rfl (lv_at hl 0 rfl) ?_
  refine qget_X5_1 hC hR qk_227 dX5_breakagesInThought_12 ?_
  refine lv_iload_n hx hb dX5_breakagesInThought_15 rfl (lv_at hl 1 rfl) ?_
  obtain ⟨r4, w5, hq3, hf⟩ := qbd2_s hf
  refine q_callVi hC hR (mX0_performShock (qJ hC) (show 1 < 12 by decide) hq3) (by have := (show 1 < 12 by decide); omega) (qsh_hall G ad _ (show 1 < 12 by decide)) rfl qk_348 qk_349 qk_350 qk_20 qk_351 qhd_X0_performShock ⟨Nat.le_of_ble_eq_true rfl, Nat.le_of_ble_eq_true rfl⟩ hl.1 rfl (Nat.le_of_ble_eq_true rfl) dX5_breakagesInThought_16 ⟨Nat.zero_le _, Nat.zero_le _⟩ (fun H locs hR => ?_)
  refine lv_pop hx hb dX5_breakagesInThought_19 rfl ?_
  refine lv_aload_n hx hb dX5_breakagesInThought_20 rfl (lv_at hl 0 rfl) ?_
  refine qget_X5_1 hC hR qk_227 dX5_breakagesInThought_21 ?_
  refine qget_X0_9 hC hR (show 1 < 12 by decide) qk_128 dX5_breakagesInThought_24 ?_
  refine lv_aload_n hx hb dX5_breakagesInThought_27 rfl (lv_at hl 0 rfl) ?_
  refine qget_X5_0 hC hR qk_226 dX5_breakagesInThought_28 ?_
  refine qget_X0_9 hC hR (show 0 < 12 by decide) qk_128 dX5_breakagesInThought_31 ?_
  refine lv_isub hx hb dX5_breakagesInThought_34 ?_
  exact q_iret hC hR hr rfl (qso2 hf).1 (qso2 hf).2 dX5_breakagesInThought_35
-- X5.isReachAlike
def fX5_isReachAlike_L10  (k2 : (qMem → Int32 → Option (Int32 × qMem))) : Nat → qMem → Int32 → Int32 → Option (Int32 × qMem)
  | 0, _, _, _ => none
  | n + 1, w, x1, x2 =>
    if (5 : Int32) ≤ x2 then
      qnm (x1 + 1) fun (x3 : Int32) =>
      k2 w x3
    else
      qbd2 (fX0_reachFloorByFloor w 0 x1 x2) fun (r5 : Int32) (w6 : qMem) =>
      qbd (fX0_reachAgain w6 0 x1 x2) fun (r8 : Int32) =>
      if r5 = r8 then
        qnm (x2 + 1) fun (x10 : Int32) =>
        fX5_isReachAlike_L10 k2 n w6 x1 x10
      else
        some (0, w6)
set_option maxHeartbeats 4000000 in
set_option maxRecDepth 100000 in
theorem mX5_isReachAlike_L10 {p : Program} {l : Launch} {e : Env} {s : State} {m : MethodId} {args : Array Value} {below : List Frame} {meth : Method} {c0 : Code} {D : va_G} {G : Nat → ClassId} {ad : Nat → Nat}   {rF : Int32} {wF : qMem} {k2 : (qMem → Int32 → Option (Int32 × qMem))} (hC : qCx p c0 cX5_isReachAlike 3 s m args meth RX5 D G ad) (hr : meth.sig.returnType = some .boolean) (hk2 : ∀ (w : qMem) (x1 : Int32) (H : Heap) (locs : List Loc) (ls : Array Slot), k2 w x1 = some (rF, wF) → qRp D G ad s w H locs → lv_has ls 3 [(0, .ref (ad 228)), (1, .int x1)] → W p l e (qrm 5 0 0) s m args below meth c0 H locs 0 0 (MQ below (qQI D G ad s wF rF) args s 0 0 (qAdr ad s.heap.size)) (F0 m 2 ls [])) : ∀ (n : Nat), ∀ (w : qMem) (x1 : Int32) (x2 : Int32) (H : Heap) (locs : List Loc) (ls : Array Slot), fX5_isReachAlike_L10 k2 n w x1 x2 = some (rF, wF) → qRp D G ad s w H locs → lv_has ls 3 [(0, .ref (ad 228)), (1, .int x1), (2, .int x2)] → W p l e (qrm 5 0 0) s m args below meth c0 H locs 0 0 (MQ below (qQI D G ad s wF rF) args s 0 0 (qAdr ad s.heap.size)) (F0 m 10 ls []) := by
  have hx := hC.1
  have hb := hC.2.1
  intro n
  induction n with
  | zero => intro w x1 x2 H locs ls hf; exact nomatch (show (none : Option (Int32 × qMem)) = some _ from hf)
  | succ n ih =>
    intro w x1 x2 H locs ls hf hR hl
    rw [fX5_isReachAlike_L10] at hf
    refine lv_iload_n hx hb dX5_isReachAlike_10 rfl (lv_at hl 2 rfl) ?_
    refine lv_iconst (v := 5) hx hb dX5_isReachAlike_11 (by decide) ?_
    refine lv_icmp_ge (tgt := 44) hx hb dX5_isReachAlike_12 (by decide) (fun c_2 => ?_) (fun c_2 => ?_)
    · have hf := qif_t hf c_2
      obtain ⟨x3, ex3⟩ : ∃ y : Int32, y = x1 + 1 := ⟨_, rfl⟩
      have hf := qnm_t hf ex3
      refine lv_iinc (v := x3) (lv' := [(1, .int x3), (0, .ref (ad 228)), (2, .int x2)]) hx hb dX5_isReachAlike_44 hl (k := 1) rfl (by rw [ex3]; rfl) (by decide) rfl (fun ls hl => ?_)
      refine lv_goto (tgt := 2) hx hb dX5_isReachAlike_47 (by decide) ?_
      exact hk2 _ _ _ _ _ hf hR (lv_sub hl [1, 0] rfl)
    · have hf := qif_f hf c_2
      refine lv_aload_n hx hb dX5_isReachAlike_15 rfl (lv_at hl 0 rfl) ?_
      refine qget_X5_0 hC hR qk_226 dX5_isReachAlike_16 ?_
      refine lv_iload_n hx hb dX5_isReachAlike_19 rfl (lv_at hl 1 rfl) ?_
      refine lv_iload_n hx hb dX5_isReachAlike_20 rfl (lv_at hl 2 rfl) ?_
      obtain ⟨r5, w6, hq4, hf⟩ := qbd2_s hf
      refine q_callVi hC hR (mX0_reachFloorByFloor (qJ hC) (show 0 < 12 by decide) hq4) (by have := (show 0 < 12 by decide); omega) (qsh_hall G ad _ (show 0 < 12 by decide)) rfl qk_678 qk_679 qk_680 qk_20 qk_681 qhd_X0_reachFloorByFloor ⟨Nat.le_of_ble_eq_true rfl, Nat.le_of_ble_eq_true rfl⟩ hl.1 rfl (Nat.le_of_ble_eq_true rfl) dX5_isReachAlike_21 ⟨Nat.zero_le _, Nat.zero_le _⟩ (fun H locs hR => ?_)
      refine lv_aload_n hx hb dX5_isReachAlike_24 rfl (lv_at hl 0 rfl) ?_
      refine qget_X5_0 hC hR qk_226 dX5_isReachAlike_25 ?_
      refine lv_iload_n hx hb dX5_isReachAlike_28 rfl (lv_at hl 1 rfl) ?_
      refine lv_iload_n hx hb dX5_isReachAlike_29 rfl (lv_at hl 2 rfl) ?_
      obtain ⟨r8, hq7, hf⟩ := qbd_s hf
      refine q_callVi hC hR (mX0_reachAgain (qJ hC) (show 0 < 12 by decide) hq7) (by have := (show 0 < 12 by decide); omega) (qsh_hall G ad _ (show 0 < 12 by decide)) rfl qk_673 qk_674 qk_675 qk_20 qk_676 qhd_X0_reachAgain ⟨Nat.le_of_ble_eq_true rfl, Nat.le_of_ble_eq_true rfl⟩ hl.1 rfl (Nat.le_of_ble_eq_true rfl) dX5_isReachAlike_30 ⟨Nat.zero_le _, Nat.zero_le _⟩ (fun H locs hR => ?_)
      refine lv_icmp_eq (tgt := 38) hx hb dX5_isReachAlike_33 (by decide) (fun c_9 => ?_) (fun c_9 => ?_)
      · have hf := qif_t hf c_9
        obtain ⟨x10, ex10⟩ : ∃ y : Int32, y = x2 + 1 := ⟨_, rfl⟩
        have hf := qnm_t hf ex10
        refine lv_iinc (v := x10) (lv' := [(2, .int x10), (0, .ref (ad 228)), (1, .int x1)]) hx hb dX5_isReachAlike_38 hl (k := 2) rfl (by rw [ex10]; rfl) (by decide) rfl (fun ls hl => ?_)
        refine lv_goto (tgt := 10) hx hb dX5_isReachAlike_41 (by decide) ?_
        exact ih _ _ _ _ _ _ hf hR (lv_sub hl [1, 2, 0] rfl)
      · have hf := qif_f hf c_9
        refine lv_iconst (v := 0) hx hb dX5_isReachAlike_36 (by decide) ?_
        exact q_iret hC hR hr (by decide) (qso2 hf).1 (qso2 hf).2 dX5_isReachAlike_37
def fX5_isReachAlike_L2   : Nat → qMem → Int32 → Option (Int32 × qMem)
  | 0, _, _ => none
  | n + 1, w, x1 =>
    if (9 : Int32) < x1 then
      some (1, w)
    else
      fX5_isReachAlike_L10 (fX5_isReachAlike_L2 n) 100 w x1 0
set_option maxHeartbeats 4000000 in
set_option maxRecDepth 100000 in
theorem mX5_isReachAlike_L2 {p : Program} {l : Launch} {e : Env} {s : State} {m : MethodId} {args : Array Value} {below : List Frame} {meth : Method} {c0 : Code} {D : va_G} {G : Nat → ClassId} {ad : Nat → Nat}   {rF : Int32} {wF : qMem}  (hC : qCx p c0 cX5_isReachAlike 3 s m args meth RX5 D G ad) (hr : meth.sig.returnType = some .boolean)  : ∀ (n : Nat), ∀ (w : qMem) (x1 : Int32) (H : Heap) (locs : List Loc) (ls : Array Slot), fX5_isReachAlike_L2 n w x1 = some (rF, wF) → qRp D G ad s w H locs → lv_has ls 3 [(0, .ref (ad 228)), (1, .int x1)] → W p l e (qrm 5 0 0) s m args below meth c0 H locs 0 0 (MQ below (qQI D G ad s wF rF) args s 0 0 (qAdr ad s.heap.size)) (F0 m 2 ls []) := by
  have hx := hC.1
  have hb := hC.2.1
  intro n
  induction n with
  | zero => intro w x1 H locs ls hf; exact nomatch (show (none : Option (Int32 × qMem)) = some _ from hf)
  | succ n ih =>
    intro w x1 H locs ls hf hR hl
    rw [fX5_isReachAlike_L2] at hf
    refine lv_iload_n hx hb dX5_isReachAlike_2 rfl (lv_at hl 1 rfl) ?_
    refine lv_bipush (v := 9) hx hb dX5_isReachAlike_3 (by decide) ?_
    refine lv_icmp_gt (tgt := 50) hx hb dX5_isReachAlike_5 (by decide) (fun c_1 => ?_) (fun c_1 => ?_)
    · have hf := qif_t hf c_1
      refine lv_iconst (v := 1) hx hb dX5_isReachAlike_50 (by decide) ?_
      exact q_iret hC hR hr (by decide) (qso2 hf).1 (qso2 hf).2 dX5_isReachAlike_51
    · have hf := qif_f hf c_1
      refine lv_iconst (v := 0) hx hb dX5_isReachAlike_8 (by decide) ?_
      refine lv_istore_n (lv' := [(2, .int 0), (0, .ref (ad 228)), (1, .int x1)]) hx hb dX5_isReachAlike_9 rfl hl (by decide) rfl (fun ls hl => ?_)
      exact mX5_isReachAlike_L10 hC hr (ih) 100 _ _ _ _ _ _ hf hR (lv_sub hl [1, 2, 0] rfl)
def fX5_isReachAlike (w : qMem)   : Option (Int32 × qMem) :=
  fX5_isReachAlike_L2 100 w 1
theorem qhd_X5_isReachAlike : yX5_isReachAlike.cls ≠ "java/lang/invoke/MethodHandle" ∧ yX5_isReachAlike.cls ≠ "java/lang/invoke/VarHandle" ∧ (parseMethodDescriptor yX5_isReachAlike.desc).map (fun d => d.parameters.length) = some 0 := ⟨by decide +kernel, by decide +kernel, by decide +kernel⟩
set_option maxHeartbeats 4000000 in
set_option maxRecDepth 100000 in
theorem mX5_isReachAlike {l : Launch} {D : va_G} {G : Nat → ClassId} {ad : Nat → Nat} (hJ : qInj ad) {w : qMem}    {rF : Int32} {wF : qMem} (hf : fX5_isReachAlike w = some (rF, wF)) : qCMi l D G ad yX5_isReachAlike cX5_isReachAlike 3 (some .boolean) 5 0 0 [.ref (ad 228)] w rF wF := by
  refine q_start RX5 rfl (by decide +kernel) hJ (fun a b h => by simp only [qQI, qQV, qQR, qQD, qQF, h]) (Nat.le_of_ble_eq_true rfl) ?_
  intro p e s m args below meth c0 ls hC hr hR hl
  have hx := hC.1
  have hb := hC.2.1
  have hl : lv_has ls 3 [(0, .ref (ad 228))] := hl
  unfold fX5_isReachAlike at hf
  refine lv_iconst (v := 1) hx hb dX5_isReachAlike_0 (by decide) ?_
  refine lv_istore_n (lv' := [(1, .int 1), (0, .ref (ad 228))]) hx hb dX5_isReachAlike_1 rfl hl (by decide) rfl (fun ls hl => ?_)
  exact mX5_isReachAlike_L2 hC hr 100 _ _ _ _ _ hf hR (lv_sub hl [1, 0] rfl)
-- X5.areBreakagesAlike
def fX5_areBreakagesAlike_L2   : Nat → qMem → Int32 → Option (Int32 × qMem)
  | 0, _, _ => none
  | n + 1, w, x1 =>
    if (9 : Int32) < x1 then
      some (1, w)
    else
      qbd2 (fX5_breakagesInThought w x1) fun (r3 : Int32) (w4 : qMem) =>
      qbd (fX0_breakagesPropByProp w4 0 x1) fun (r6 : Int32) =>
      if r3 = r6 then
        qnm (x1 + 1) fun (x8 : Int32) =>
        fX5_areBreakagesAlike_L2 n w4 x8
      else
        some (0, w4)
set_option maxHeartbeats 4000000 in
set_option maxRecDepth 100000 in
theorem mX5_areBreakagesAlike_L2 {p : Program} {l : Launch} {e : Env} {s : State} {m : MethodId} {args : Array Value} {below : List Frame} {meth : Method} {c0 : Code} {D : va_G} {G : Nat → ClassId} {ad : Nat → Nat}   {rF : Int32} {wF : qMem}  (hC : qCx p c0 cX5_areBreakagesAlike 2 s m args meth RX5 D G ad) (hr : meth.sig.returnType = some .boolean)  : ∀ (n : Nat), ∀ (w : qMem) (x1 : Int32) (H : Heap) (locs : List Loc) (ls : Array Slot), fX5_areBreakagesAlike_L2 n w x1 = some (rF, wF) → qRp D G ad s w H locs → lv_has ls 2 [(0, .ref (ad 228)), (1, .int x1)] → W p l e (qrm 6 0 0) s m args below meth c0 H locs 0 0 (MQ below (qQI D G ad s wF rF) args s 0 0 (qAdr ad s.heap.size)) (F0 m 2 ls []) := by
  have hx := hC.1
  have hb := hC.2.1
  intro n
  induction n with
  | zero => intro w x1 H locs ls hf; exact nomatch (show (none : Option (Int32 × qMem)) = some _ from hf)
  | succ n ih =>
    intro w x1 H locs ls hf hR hl
    rw [fX5_areBreakagesAlike_L2] at hf
    refine lv_iload_n hx hb dX5_areBreakagesAlike_2 rfl (lv_at hl 1 rfl) ?_
    refine lv_bipush (v := 9) hx hb dX5_areBreakagesAlike_3 (by decide) ?_
    refine lv_icmp_gt (tgt := 32) hx hb dX5_areBreakagesAlike_5 (by decide) (fun c_1 => ?_) (fun c_1 => ?_)
    · have hf := qif_t hf c_1
      refine lv_iconst (v := 1) hx hb dX5_areBreakagesAlike_32 (by decide) ?_
      exact q_iret hC hR hr (by decide) (qso2 hf).1 (qso2 hf).2 dX5_areBreakagesAlike_33
    · have hf := qif_f hf c_1
      refine lv_aload_n hx hb dX5_areBreakagesAlike_8 rfl (lv_at hl 0 rfl) ?_
      refine lv_iload_n hx hb dX5_areBreakagesAlike_9 rfl (lv_at hl 1 rfl) ?_
      obtain ⟨r3, w4, hq2, hf⟩ := qbd2_s hf
      refine q_callVi hC hR (mX5_breakagesInThought (qJ hC) hq2) (by decide) (qsh_228 G ad _) rfl qk_717 qk_719 qk_14 qk_19 qk_720 qhd_X5_breakagesInThought ⟨Nat.le_of_ble_eq_true rfl, Nat.le_of_ble_eq_true rfl⟩ hl.1 rfl (Nat.le_of_ble_eq_true rfl) dX5_areBreakagesAlike_10 ⟨Nat.zero_le _, Nat.zero_le _⟩ (fun H locs hR => ?_)
      refine lv_aload_n hx hb dX5_areBreakagesAlike_13 rfl (lv_at hl 0 rfl) ?_
      refine qget_X5_0 hC hR qk_226 dX5_areBreakagesAlike_14 ?_
      refine lv_iload_n hx hb dX5_areBreakagesAlike_17 rfl (lv_at hl 1 rfl) ?_
      obtain ⟨r6, hq5, hf⟩ := qbd_s hf
      refine q_callVi hC hR (mX0_breakagesPropByProp (qJ hC) (show 0 < 12 by decide) hq5) (by have := (show 0 < 12 by decide); omega) (qsh_hall G ad _ (show 0 < 12 by decide)) rfl qk_708 qk_709 qk_710 qk_20 qk_711 qhd_X0_breakagesPropByProp ⟨Nat.le_of_ble_eq_true rfl, Nat.le_of_ble_eq_true rfl⟩ hl.1 rfl (Nat.le_of_ble_eq_true rfl) dX5_areBreakagesAlike_18 ⟨Nat.zero_le _, Nat.zero_le _⟩ (fun H locs hR => ?_)
      refine lv_icmp_eq (tgt := 26) hx hb dX5_areBreakagesAlike_21 (by decide) (fun c_7 => ?_) (fun c_7 => ?_)
      · have hf := qif_t hf c_7
        obtain ⟨x8, ex8⟩ : ∃ y : Int32, y = x1 + 1 := ⟨_, rfl⟩
        have hf := qnm_t hf ex8
        refine lv_iinc (v := x8) (lv' := [(1, .int x8), (0, .ref (ad 228))]) hx hb dX5_areBreakagesAlike_26 hl (k := 1) rfl (by rw [ex8]; rfl) (by decide) rfl (fun ls hl => ?_)
        refine lv_goto (tgt := 2) hx hb dX5_areBreakagesAlike_29 (by decide) ?_
        exact ih _ _ _ _ _ hf hR (lv_sub hl [1, 0] rfl)
      · have hf := qif_f hf c_7
        refine lv_iconst (v := 0) hx hb dX5_areBreakagesAlike_24 (by decide) ?_
        exact q_iret hC hR hr (by decide) (qso2 hf).1 (qso2 hf).2 dX5_areBreakagesAlike_25
def fX5_areBreakagesAlike (w : qMem)   : Option (Int32 × qMem) :=
  fX5_areBreakagesAlike_L2 100 w 1
theorem qhd_X5_areBreakagesAlike : yX5_areBreakagesAlike.cls ≠ "java/lang/invoke/MethodHandle" ∧ yX5_areBreakagesAlike.cls ≠ "java/lang/invoke/VarHandle" ∧ (parseMethodDescriptor yX5_areBreakagesAlike.desc).map (fun d => d.parameters.length) = some 0 := ⟨by decide +kernel, by decide +kernel, by decide +kernel⟩
set_option maxHeartbeats 4000000 in
set_option maxRecDepth 100000 in
theorem mX5_areBreakagesAlike {l : Launch} {D : va_G} {G : Nat → ClassId} {ad : Nat → Nat} (hJ : qInj ad) {w : qMem}    {rF : Int32} {wF : qMem} (hf : fX5_areBreakagesAlike w = some (rF, wF)) : qCMi l D G ad yX5_areBreakagesAlike cX5_areBreakagesAlike 2 (some .boolean) 6 0 0 [.ref (ad 228)] w rF wF := by
  refine q_start RX5 rfl (by decide +kernel) hJ (fun a b h => by simp only [qQI, qQV, qQR, qQD, qQF, h]) (Nat.le_of_ble_eq_true rfl) ?_
  intro p e s m args below meth c0 ls hC hr hR hl
  have hx := hC.1
  have hb := hC.2.1
  have hl : lv_has ls 2 [(0, .ref (ad 228))] := hl
  unfold fX5_areBreakagesAlike at hf
  refine lv_iconst (v := 1) hx hb dX5_areBreakagesAlike_0 (by decide) ?_
  refine lv_istore_n (lv' := [(1, .int 1), (0, .ref (ad 228))]) hx hb dX5_areBreakagesAlike_1 rfl hl (by decide) rfl (fun ls hl => ?_)
  exact mX5_areBreakagesAlike_L2 hC hr 100 _ _ _ _ _ hf hR (lv_sub hl [1, 0] rfl)
-- X5.propOf
def fX5_propOf (w : qMem)  (a1 : Int32) (a2 : Int32) : Option (Nat × Int32 × qMem) :=
  qbd3 (fX5_propNumbered w a1) fun (k3 : Nat) (r5 : Nat) (w2 : qMem) =>
  if k3 = 0 then
  if qisPb r5 = true then
  if a2 = 0 then
    some (0, w2 r5 0, w2)
  else
  if a2 = 1 then
    some (0, w2 r5 1, w2)
  else
  if a2 = 2 then
    some (0, w2 r5 2, w2)
  else
  if a2 = 3 then
    some (0, w2 r5 3, w2)
  else
  if a2 = 4 then
    if w2 r5 4 = 0 then
      some (0, 0, w2)
    else
      some (0, 1, w2)
  else
  if a2 = 5 then
    some (0, w2 r5 5, w2)
  else
  if a2 = 6 then
    some (0, w2 r5 6, w2)
  else
  some (1, 0, w2)
  else none
  else some (k3, 0, w2)
theorem qhd_X5_propOf : yX5_propOf.cls ≠ "java/lang/invoke/MethodHandle" ∧ yX5_propOf.cls ≠ "java/lang/invoke/VarHandle" ∧ (parseMethodDescriptor yX5_propOf.desc).map (fun d => d.parameters.length) = some 2 := ⟨by decide +kernel, by decide +kernel, by decide +kernel⟩
set_option maxHeartbeats 4000000 in
set_option maxRecDepth 100000 in
theorem mX5_propOf {l : Launch} {D : va_G} {G : Nat → ClassId} {ad : Nat → Nat} (hJ : qInj ad) (hst : l.stackTraces = false) {w : qMem}   {a1 : Int32} {a2 : Int32} {cF : Nat} {rF : Int32} {wF : qMem} (hf : fX5_propOf w a1 a2 = some (cF, rF, wF)) : qCX l D G ad yX5_propOf cX5_propOf 4 (some .int) 7 2 12 [.ref (ad 228), .int a1, .int a2] w (fun st => qxQI D G ad st cF rF wF) cF wF := by
  refine qx_start RX5 rfl (by decide +kernel) hJ (fun a b h => by simp only [qxQI, qxQV, qxQR, qxQD, qxQF, h]) (Nat.le_of_ble_eq_true rfl) ?_
  intro p e s m args below meth c0 ls hC hr ht hR hl
  have hx := hC.1
  have hb := hC.2.1
  have hl : lv_has ls 4 [(0, .ref (ad 228)), (1, .int a1), (2, .int a2)] := hl
  unfold fX5_propOf at hf
  refine lv_aload_n hx hb dX5_propOf_0 rfl (lv_at hl 0 rfl) ?_
  refine lv_iload_n hx hb dX5_propOf_1 rfl (lv_at hl 1 rfl) ?_
  obtain ⟨k3, r5, w2, hq1, hf⟩ := qbd3_s hf
  refine qx_callVr hC hR (mX5_propNumbered (qJ hC) hst hq1) (by decide) (qsh_228 G ad _) rfl qk_654 qk_656 qk_12 qk_19 qk_657 qhd_X5_propNumbered ⟨Nat.le_of_ble_eq_true rfl, Nat.le_of_ble_eq_true rfl⟩ hl.1 rfl (Nat.le_of_ble_eq_true rfl) dX5_propOf_2 ⟨Nat.le_of_ble_eq_true rfl, Nat.le_of_ble_eq_true rfl⟩ (fun h4 H locs ce q9 hR hz1 hz2 hz3 => ?_) (fun h4 H locs hR => ?_)
  · have hf := qif_f hf h4
    exact qx_out hC hR ht (qso3 hf).1 h4 (qso3 hf).2.2 hz1 hz2 hz3 (Nat.le_of_ble_eq_true rfl) (Nat.le_of_ble_eq_true rfl)
  have hf := qif_t hf h4
  obtain ⟨g6, hf⟩ := qgd hf
  refine lv_astore_n (lv' := [(3, .ref (ad (r5))), (0, .ref (ad 228)), (1, .int a1), (2, .int a2)]) hx hb dX5_propOf_5 rfl hl (by decide) rfl (fun ls hl => ?_)
  refine lv_iload_n hx hb dX5_propOf_6 rfl (lv_at hl 3 rfl) ?_
  by_cases c_7 : a2 = 0
  · have hf := qif_t hf c_7
    refine lv_tableIn (off := 41) (tgt := 48) hx hb dX5_propOf_7 (by rw [c_7]; decide) (by rw [c_7]; decide) (by rw [c_7]; decide) (by decide) ?_
    refine lv_aload_n hx hb dX5_propOf_48 rfl (lv_at hl 0 rfl) ?_
    refine qget_X3_0 hC hR (qisPb_ok g6) qk_74 dX5_propOf_49 ?_
    exact qx_iret hC hR hr rfl (qso3 hf).1.symm (qso3 hf).2.1 (qso3 hf).2.2 dX5_propOf_52 (Nat.le_of_ble_eq_true rfl) (Nat.le_of_ble_eq_true rfl)
  have hf := qif_f hf c_7
  by_cases c_8 : a2 = 1
  · have hf := qif_t hf c_8
    refine lv_tableIn (off := 46) (tgt := 53) hx hb dX5_propOf_7 (by rw [c_8]; decide) (by rw [c_8]; decide) (by rw [c_8]; decide) (by decide) ?_
    refine lv_aload_n hx hb dX5_propOf_53 rfl (lv_at hl 0 rfl) ?_
    refine qget_X3_1 hC hR (qisPb_ok g6) qk_78 dX5_propOf_54 ?_
    exact qx_iret hC hR hr rfl (qso3 hf).1.symm (qso3 hf).2.1 (qso3 hf).2.2 dX5_propOf_57 (Nat.le_of_ble_eq_true rfl) (Nat.le_of_ble_eq_true rfl)
  have hf := qif_f hf c_8
  by_cases c_9 : a2 = 2
  · have hf := qif_t hf c_9
    refine lv_tableIn (off := 51) (tgt := 58) hx hb dX5_propOf_7 (by rw [c_9]; decide) (by rw [c_9]; decide) (by rw [c_9]; decide) (by decide) ?_
    refine lv_aload_n hx hb dX5_propOf_58 rfl (lv_at hl 0 rfl) ?_
    refine qget_X3_2 hC hR (qisPb_ok g6) qk_82 dX5_propOf_59 ?_
    exact qx_iret hC hR hr rfl (qso3 hf).1.symm (qso3 hf).2.1 (qso3 hf).2.2 dX5_propOf_62 (Nat.le_of_ble_eq_true rfl) (Nat.le_of_ble_eq_true rfl)
  have hf := qif_f hf c_9
  by_cases c_10 : a2 = 3
  · have hf := qif_t hf c_10
    refine lv_tableIn (off := 56) (tgt := 63) hx hb dX5_propOf_7 (by rw [c_10]; decide) (by rw [c_10]; decide) (by rw [c_10]; decide) (by decide) ?_
    refine lv_aload_n hx hb dX5_propOf_63 rfl (lv_at hl 0 rfl) ?_
    refine qget_X3_3 hC hR (qisPb_ok g6) qk_85 dX5_propOf_64 ?_
    exact qx_iret hC hR hr rfl (qso3 hf).1.symm (qso3 hf).2.1 (qso3 hf).2.2 dX5_propOf_67 (Nat.le_of_ble_eq_true rfl) (Nat.le_of_ble_eq_true rfl)
  have hf := qif_f hf c_10
  by_cases c_11 : a2 = 4
  · have hf := qif_t hf c_11
    refine lv_tableIn (off := 61) (tgt := 68) hx hb dX5_propOf_7 (by rw [c_11]; decide) (by rw [c_11]; decide) (by rw [c_11]; decide) (by decide) ?_
    refine lv_aload_n hx hb dX5_propOf_68 rfl (lv_at hl 0 rfl) ?_
    refine qget_X3_4 hC hR (qisPb_ok g6) qk_90 dX5_propOf_69 ?_
    refine lv_if_eq (tgt := 79) hx hb dX5_propOf_72 (by decide) (fun c_12 => ?_) (fun c_12 => ?_)
    · have hf := qif_t hf c_12
      refine lv_iconst (v := 0) hx hb dX5_propOf_79 (by decide) ?_
      exact qx_iret hC hR hr rfl (qso3 hf).1.symm (qso3 hf).2.1 (qso3 hf).2.2 dX5_propOf_80 (Nat.le_of_ble_eq_true rfl) (Nat.le_of_ble_eq_true rfl)
    · have hf := qif_f hf c_12
      refine lv_iconst (v := 1) hx hb dX5_propOf_75 (by decide) ?_
      refine lv_goto (tgt := 80) hx hb dX5_propOf_76 (by decide) ?_
      exact qx_iret hC hR hr rfl (qso3 hf).1.symm (qso3 hf).2.1 (qso3 hf).2.2 dX5_propOf_80 (Nat.le_of_ble_eq_true rfl) (Nat.le_of_ble_eq_true rfl)
  have hf := qif_f hf c_11
  by_cases c_13 : a2 = 5
  · have hf := qif_t hf c_13
    refine lv_tableIn (off := 74) (tgt := 81) hx hb dX5_propOf_7 (by rw [c_13]; decide) (by rw [c_13]; decide) (by rw [c_13]; decide) (by decide) ?_
    refine lv_aload_n hx hb dX5_propOf_81 rfl (lv_at hl 0 rfl) ?_
    refine qget_X3_5 hC hR (qisPb_ok g6) qk_93 dX5_propOf_82 ?_
    exact qx_iret hC hR hr rfl (qso3 hf).1.symm (qso3 hf).2.1 (qso3 hf).2.2 dX5_propOf_85 (Nat.le_of_ble_eq_true rfl) (Nat.le_of_ble_eq_true rfl)
  have hf := qif_f hf c_13
  by_cases c_14 : a2 = 6
  · have hf := qif_t hf c_14
    refine lv_tableIn (off := 79) (tgt := 86) hx hb dX5_propOf_7 (by rw [c_14]; decide) (by rw [c_14]; decide) (by rw [c_14]; decide) (by decide) ?_
    refine lv_aload_n hx hb dX5_propOf_86 rfl (lv_at hl 0 rfl) ?_
    refine qget_X3_6 hC hR (qisPb_ok g6) qk_95 dX5_propOf_87 ?_
    exact qx_iret hC hR hr rfl (qso3 hf).1.symm (qso3 hf).2.1 (qso3 hf).2.2 dX5_propOf_90 (Nat.le_of_ble_eq_true rfl) (Nat.le_of_ble_eq_true rfl)
  have hf := qif_f hf c_14
  refine lv_tableOut (tgt := 91) hx hb dX5_propOf_7 (by have hc_7 := qne (z := 0) c_7 rfl; have hc_8 := qne (z := 1) c_8 rfl; have hc_9 := qne (z := 2) c_9 rfl; have hc_10 := qne (z := 3) c_10 rfl; have hc_11 := qne (z := 4) c_11 rfl; have hc_13 := qne (z := 5) c_13 rfl; have hc_14 := qne (z := 6) c_14 rfl; omega) (by decide) ?_
  exact q_throw hC hR hst ht (code := cF) (E := "java/lang/IllegalArgumentException") (text := "what is not from 0 to 6") (ik := 74) (is := 117) (ic := 78) (i := 29) (by rw [← (qso3 hf).1]; rfl) (by rw [← (qso3 hf).1]; decide) (qso3 hf).2.2 (by decide +kernel) qk_433 qxi_78 (by decide +kernel) qxw_78 hl.1 dX5_propOf_91 dX5_propOf_94 dX5_propOf_95 dX5_propOf_97 dX5_propOf_100 (Nat.le_of_ble_eq_true rfl) (Nat.le_of_ble_eq_true rfl) (Nat.le_of_ble_eq_true rfl) (Nat.le_of_ble_eq_true rfl) (Nat.le_of_ble_eq_true rfl) (Nat.le_of_ble_eq_true rfl)
-- X5.wouldMark
def fX5_wouldMark (w : qMem)  (a1 : Int32) : Option (Nat × Int32 × qMem) :=
  qbd2 (fX5_requireStrength w a1) fun (k3 : Nat) (w2 : qMem) =>
  if k3 = 0 then
  qbd2 (fX5_marksInThought w2 a1) fun (r6 : Int32) (w7 : qMem) =>
  some (0, r6, w7)
  else some (k3, 0, w2)
theorem qhd_X5_wouldMark : yX5_wouldMark.cls ≠ "java/lang/invoke/MethodHandle" ∧ yX5_wouldMark.cls ≠ "java/lang/invoke/VarHandle" ∧ (parseMethodDescriptor yX5_wouldMark.desc).map (fun d => d.parameters.length) = some 1 := ⟨by decide +kernel, by decide +kernel, by decide +kernel⟩
set_option maxHeartbeats 4000000 in
set_option maxRecDepth 100000 in
theorem mX5_wouldMark {l : Launch} {D : va_G} {G : Nat → ClassId} {ad : Nat → Nat} (hJ : qInj ad) (hst : l.stackTraces = false) {w : qMem}   {a1 : Int32} {cF : Nat} {rF : Int32} {wF : qMem} (hf : fX5_wouldMark w a1 = some (cF, rF, wF)) : qCX l D G ad yX5_wouldMark cX5_wouldMark 2 (some .int) 7 1 6 [.ref (ad 228), .int a1] w (fun st => qxQI D G ad st cF rF wF) cF wF := by
  refine qx_start RX5 rfl (by decide +kernel) hJ (fun a b h => by simp only [qxQI, qxQV, qxQR, qxQD, qxQF, h]) (Nat.le_of_ble_eq_true rfl) ?_
  intro p e s m args below meth c0 ls hC hr ht hR hl
  have hx := hC.1
  have hb := hC.2.1
  have hl : lv_has ls 2 [(0, .ref (ad 228)), (1, .int a1)] := hl
  unfold fX5_wouldMark at hf
  refine lv_iload_n hx hb dX5_wouldMark_0 rfl (lv_at hl 1 rfl) ?_
  obtain ⟨k3, w2, hq1, hf⟩ := qbd2_s hf
  refine qx_callSv hC hR (mX5_requireStrength (qJ hC) hst hq1) qk_693 qk_694 qk_19 qk_695 qhd_X5_requireStrength ⟨Nat.le_of_ble_eq_true rfl, Nat.le_of_ble_eq_true rfl⟩ hl.1 rfl (Nat.le_of_ble_eq_true rfl) dX5_wouldMark_1 ⟨Nat.le_of_ble_eq_true rfl, Nat.le_of_ble_eq_true rfl⟩ (fun h4 H locs ce q9 hR hz1 hz2 hz3 => ?_) (fun h4 H locs hR => ?_)
  · have hf := qif_f hf h4
    exact qx_out hC hR ht (qso3 hf).1 h4 (qso3 hf).2.2 hz1 hz2 hz3 (Nat.le_of_ble_eq_true rfl) (Nat.le_of_ble_eq_true rfl)
  have hf := qif_t hf h4
  refine lv_aload_n hx hb dX5_wouldMark_4 rfl (lv_at hl 0 rfl) ?_
  refine lv_iload_n hx hb dX5_wouldMark_5 rfl (lv_at hl 1 rfl) ?_
  obtain ⟨r6, w7, hq5, hf⟩ := qbd2_s hf
  refine q_callVi hC hR (mX5_marksInThought (qJ hC) hq5) (by decide) (qsh_228 G ad _) rfl qk_696 qk_698 qk_13 qk_19 qk_699 qhd_X5_marksInThought ⟨Nat.le_of_ble_eq_true rfl, Nat.le_of_ble_eq_true rfl⟩ hl.1 rfl (Nat.le_of_ble_eq_true rfl) dX5_wouldMark_6 ⟨Nat.le_of_ble_eq_true rfl, Nat.le_of_ble_eq_true rfl⟩ (fun H locs hR => ?_)
  exact qx_iret hC hR hr rfl (qso3 hf).1.symm (qso3 hf).2.1 (qso3 hf).2.2 dX5_wouldMark_9 (Nat.le_of_ble_eq_true rfl) (Nat.le_of_ble_eq_true rfl)
-- X5.wouldBreak
def fX5_wouldBreak (w : qMem)  (a1 : Int32) (a2 : Int32) : Option (Nat × Int32 × qMem) :=
  qbd2 (fX5_requireStrength w a1) fun (k3 : Nat) (w2 : qMem) =>
  if k3 = 0 then
  if a2 = 0 then
    qbd2 (fX5_breakagesInThought w2 a1) fun (r7 : Int32) (w8 : qMem) =>
    some (0, r7, w8)
  else
    qbd (fX0_breakagesPropByProp w2 0 a1) fun (r10 : Int32) =>
    some (0, r10, w2)
  else some (k3, 0, w2)
theorem qhd_X5_wouldBreak : yX5_wouldBreak.cls ≠ "java/lang/invoke/MethodHandle" ∧ yX5_wouldBreak.cls ≠ "java/lang/invoke/VarHandle" ∧ (parseMethodDescriptor yX5_wouldBreak.desc).map (fun d => d.parameters.length) = some 2 := ⟨by decide +kernel, by decide +kernel, by decide +kernel⟩
set_option maxHeartbeats 4000000 in
set_option maxRecDepth 100000 in
theorem mX5_wouldBreak {l : Launch} {D : va_G} {G : Nat → ClassId} {ad : Nat → Nat} (hJ : qInj ad) (hst : l.stackTraces = false) {w : qMem}   {a1 : Int32} {a2 : Int32} {cF : Nat} {rF : Int32} {wF : qMem} (hf : fX5_wouldBreak w a1 a2 = some (cF, rF, wF)) : qCX l D G ad yX5_wouldBreak cX5_wouldBreak 3 (some .int) 7 1 6 [.ref (ad 228), .int a1, .int a2] w (fun st => qxQI D G ad st cF rF wF) cF wF := by
  refine qx_start RX5 rfl (by decide +kernel) hJ (fun a b h => by simp only [qxQI, qxQV, qxQR, qxQD, qxQF, h]) (Nat.le_of_ble_eq_true rfl) ?_
  intro p e s m args below meth c0 ls hC hr ht hR hl
  have hx := hC.1
  have hb := hC.2.1
  have hl : lv_has ls 3 [(0, .ref (ad 228)), (1, .int a1), (2, .int a2)] := hl
  unfold fX5_wouldBreak at hf
  refine lv_iload_n hx hb dX5_wouldBreak_0 rfl (lv_at hl 1 rfl) ?_
  obtain ⟨k3, w2, hq1, hf⟩ := qbd2_s hf
  refine qx_callSv hC hR (mX5_requireStrength (qJ hC) hst hq1) qk_693 qk_694 qk_19 qk_695 qhd_X5_requireStrength ⟨Nat.le_of_ble_eq_true rfl, Nat.le_of_ble_eq_true rfl⟩ hl.1 rfl (Nat.le_of_ble_eq_true rfl) dX5_wouldBreak_1 ⟨Nat.le_of_ble_eq_true rfl, Nat.le_of_ble_eq_true rfl⟩ (fun h4 H locs ce q9 hR hz1 hz2 hz3 => ?_) (fun h4 H locs hR => ?_)
  · have hf := qif_f hf h4
    exact qx_out hC hR ht (qso3 hf).1 h4 (qso3 hf).2.2 hz1 hz2 hz3 (Nat.le_of_ble_eq_true rfl) (Nat.le_of_ble_eq_true rfl)
  have hf := qif_t hf h4
  refine lv_iload_n hx hb dX5_wouldBreak_4 rfl (lv_at hl 2 rfl) ?_
  refine lv_if_eq (tgt := 19) hx hb dX5_wouldBreak_5 (by decide) (fun c_5 => ?_) (fun c_5 => ?_)
  · have hf := qif_t hf c_5
    refine lv_aload_n hx hb dX5_wouldBreak_19 rfl (lv_at hl 0 rfl) ?_
    refine lv_iload_n hx hb dX5_wouldBreak_20 rfl (lv_at hl 1 rfl) ?_
    obtain ⟨r7, w8, hq6, hf⟩ := qbd2_s hf
    refine q_callVi hC hR (mX5_breakagesInThought (qJ hC) hq6) (by decide) (qsh_228 G ad _) rfl qk_717 qk_719 qk_14 qk_19 qk_720 qhd_X5_breakagesInThought ⟨Nat.le_of_ble_eq_true rfl, Nat.le_of_ble_eq_true rfl⟩ hl.1 rfl (Nat.le_of_ble_eq_true rfl) dX5_wouldBreak_21 ⟨Nat.le_of_ble_eq_true rfl, Nat.le_of_ble_eq_true rfl⟩ (fun H locs hR => ?_)
    exact qx_iret hC hR hr rfl (qso3 hf).1.symm (qso3 hf).2.1 (qso3 hf).2.2 dX5_wouldBreak_24 (Nat.le_of_ble_eq_true rfl) (Nat.le_of_ble_eq_true rfl)
  · have hf := qif_f hf c_5
    refine lv_aload_n hx hb dX5_wouldBreak_8 rfl (lv_at hl 0 rfl) ?_
    refine qget_X5_0 hC hR qk_226 dX5_wouldBreak_9 ?_
    refine lv_iload_n hx hb dX5_wouldBreak_12 rfl (lv_at hl 1 rfl) ?_
    obtain ⟨r10, hq9, hf⟩ := qbd_s hf
    refine q_callVi hC hR (mX0_breakagesPropByProp (qJ hC) (show 0 < 12 by decide) hq9) (by have := (show 0 < 12 by decide); omega) (qsh_hall G ad _ (show 0 < 12 by decide)) rfl qk_708 qk_709 qk_710 qk_20 qk_711 qhd_X0_breakagesPropByProp ⟨Nat.le_of_ble_eq_true rfl, Nat.le_of_ble_eq_true rfl⟩ hl.1 rfl (Nat.le_of_ble_eq_true rfl) dX5_wouldBreak_13 ⟨Nat.le_of_ble_eq_true rfl, Nat.le_of_ble_eq_true rfl⟩ (fun H locs hR => ?_)
    refine lv_goto (tgt := 24) hx hb dX5_wouldBreak_16 (by decide) ?_
    exact qx_iret hC hR hr rfl (qso3 hf).1.symm (qso3 hf).2.1 (qso3 hf).2.2 dX5_wouldBreak_24 (Nat.le_of_ble_eq_true rfl) (Nat.le_of_ble_eq_true rfl)
-- X5.best
def fX5_best_L10   : Nat → qMem → Int32 → Int32 → Int32 → Option (Int32 × qMem)
  | 0, _, _, _, _ => none
  | n + 1, w, x1, x2, x3 =>
    if (9 : Int32) < x3 then
      some (x1, w)
    else
      qbd2 (fX5_marksInThought w x3) fun (r6 : Int32) (w7 : qMem) =>
      if r6 ≤ x2 then
        qnm (x3 + 1) fun (x9 : Int32) =>
        fX5_best_L10 n w7 x1 x2 x9
      else
        qnm (x3 + 1) fun (x10 : Int32) =>
        fX5_best_L10 n w7 x3 r6 x10
set_option maxHeartbeats 4000000 in
set_option maxRecDepth 100000 in
theorem mX5_best_L10 {p : Program} {l : Launch} {e : Env} {s : State} {m : MethodId} {args : Array Value} {below : List Frame} {meth : Method} {c0 : Code} {D : va_G} {G : Nat → ClassId} {ad : Nat → Nat}   {rF : Int32} {wF : qMem}  (hC : qCx p c0 cX5_best 5 s m args meth RX5 D G ad) (hr : meth.sig.returnType = some .int)  : ∀ (n : Nat), ∀ (w : qMem) (x1 : Int32) (x2 : Int32) (x3 : Int32) (H : Heap) (locs : List Loc) (ls : Array Slot), fX5_best_L10 n w x1 x2 x3 = some (rF, wF) → qRp D G ad s w H locs → lv_has ls 5 [(0, .ref (ad 228)), (1, .int x1), (2, .int x2), (3, .int x3)] → W p l e (qrm 6 0 0) s m args below meth c0 H locs 0 0 (MQ below (qQI D G ad s wF rF) args s 0 0 (qAdr ad s.heap.size)) (F0 m 10 ls []) := by
  have hx := hC.1
  have hb := hC.2.1
  intro n
  induction n with
  | zero => intro w x1 x2 x3 H locs ls hf; exact nomatch (show (none : Option (Int32 × qMem)) = some _ from hf)
  | succ n ih =>
    intro w x1 x2 x3 H locs ls hf hR hl
    rw [fX5_best_L10] at hf
    refine lv_iload_n hx hb dX5_best_10 rfl (lv_at hl 3 rfl) ?_
    refine lv_bipush (v := 9) hx hb dX5_best_11 (by decide) ?_
    refine lv_icmp_gt (tgt := 40) hx hb dX5_best_13 (by decide) (fun c_4 => ?_) (fun c_4 => ?_)
    · have hf := qif_t hf c_4
      refine lv_iload_n hx hb dX5_best_40 rfl (lv_at hl 1 rfl) ?_
      exact q_iret hC hR hr rfl (qso2 hf).1 (qso2 hf).2 dX5_best_41
    · have hf := qif_f hf c_4
      refine lv_aload_n hx hb dX5_best_16 rfl (lv_at hl 0 rfl) ?_
      refine lv_iload_n hx hb dX5_best_17 rfl (lv_at hl 3 rfl) ?_
      obtain ⟨r6, w7, hq5, hf⟩ := qbd2_s hf
      refine q_callVi hC hR (mX5_marksInThought (qJ hC) hq5) (by decide) (qsh_228 G ad _) rfl qk_696 qk_698 qk_13 qk_19 qk_699 qhd_X5_marksInThought ⟨Nat.le_of_ble_eq_true rfl, Nat.le_of_ble_eq_true rfl⟩ hl.1 rfl (Nat.le_of_ble_eq_true rfl) dX5_best_18 ⟨Nat.zero_le _, Nat.zero_le _⟩ (fun H locs hR => ?_)
      refine lv_istore (lv' := [(4, .int r6), (0, .ref (ad 228)), (1, .int x1), (2, .int x2), (3, .int x3)]) hx hb dX5_best_21 hl (by decide) rfl (fun ls hl => ?_)
      refine lv_iload hx hb dX5_best_23 (lv_at hl 0 rfl) ?_
      refine lv_iload_n hx hb dX5_best_25 rfl (lv_at hl 3 rfl) ?_
      refine lv_icmp_le (tgt := 34) hx hb dX5_best_26 (by decide) (fun c_8 => ?_) (fun c_8 => ?_)
      · have hf := qif_t hf c_8
        obtain ⟨x9, ex9⟩ : ∃ y : Int32, y = x3 + 1 := ⟨_, rfl⟩
        have hf := qnm_t hf ex9
        refine lv_iinc (v := x9) (lv' := [(3, .int x9), (4, .int r6), (0, .ref (ad 228)), (1, .int x1), (2, .int x2)]) hx hb dX5_best_34 hl (k := 4) rfl (by rw [ex9]; rfl) (by decide) rfl (fun ls hl => ?_)
        refine lv_goto (tgt := 10) hx hb dX5_best_37 (by decide) ?_
        exact ih _ _ _ _ _ _ _ hf hR (lv_sub hl [2, 3, 4, 0] rfl)
      · have hf := qif_f hf c_8
        refine lv_iload_n hx hb dX5_best_29 rfl (lv_at hl 4 rfl) ?_
        refine lv_istore_n (lv' := [(1, .int x3), (4, .int r6), (0, .ref (ad 228)), (2, .int x2), (3, .int x3)]) hx hb dX5_best_30 rfl hl (by decide) rfl (fun ls hl => ?_)
        refine lv_iload hx hb dX5_best_31 (lv_at hl 1 rfl) ?_
        refine lv_istore_n (lv' := [(2, .int r6), (1, .int x3), (4, .int r6), (0, .ref (ad 228)), (3, .int x3)]) hx hb dX5_best_33 rfl hl (by decide) rfl (fun ls hl => ?_)
        obtain ⟨x10, ex10⟩ : ∃ y : Int32, y = x3 + 1 := ⟨_, rfl⟩
        have hf := qnm_t hf ex10
        refine lv_iinc (v := x10) (lv' := [(3, .int x10), (2, .int r6), (1, .int x3), (4, .int r6), (0, .ref (ad 228))]) hx hb dX5_best_34 hl (k := 4) rfl (by rw [ex10]; rfl) (by decide) rfl (fun ls hl => ?_)
        refine lv_goto (tgt := 10) hx hb dX5_best_37 (by decide) ?_
        exact ih _ _ _ _ _ _ _ hf hR (lv_sub hl [4, 2, 1, 0] rfl)
def fX5_best (w : qMem)   : Option (Int32 × qMem) :=
  qbd2 (fX5_marksInThought w 1) fun (r2 : Int32) (w3 : qMem) =>
  fX5_best_L10 100 w3 1 r2 2
theorem qhd_X5_best : yX5_best.cls ≠ "java/lang/invoke/MethodHandle" ∧ yX5_best.cls ≠ "java/lang/invoke/VarHandle" ∧ (parseMethodDescriptor yX5_best.desc).map (fun d => d.parameters.length) = some 0 := ⟨by decide +kernel, by decide +kernel, by decide +kernel⟩
set_option maxHeartbeats 4000000 in
set_option maxRecDepth 100000 in
theorem mX5_best {l : Launch} {D : va_G} {G : Nat → ClassId} {ad : Nat → Nat} (hJ : qInj ad) {w : qMem}    {rF : Int32} {wF : qMem} (hf : fX5_best w = some (rF, wF)) : qCMi l D G ad yX5_best cX5_best 5 (some .int) 6 0 0 [.ref (ad 228)] w rF wF := by
  refine q_start RX5 rfl (by decide +kernel) hJ (fun a b h => by simp only [qQI, qQV, qQR, qQD, qQF, h]) (Nat.le_of_ble_eq_true rfl) ?_
  intro p e s m args below meth c0 ls hC hr hR hl
  have hx := hC.1
  have hb := hC.2.1
  have hl : lv_has ls 5 [(0, .ref (ad 228))] := hl
  unfold fX5_best at hf
  refine lv_iconst (v := 1) hx hb dX5_best_0 (by decide) ?_
  refine lv_istore_n (lv' := [(1, .int 1), (0, .ref (ad 228))]) hx hb dX5_best_1 rfl hl (by decide) rfl (fun ls hl => ?_)
  refine lv_aload_n hx hb dX5_best_2 rfl (lv_at hl 1 rfl) ?_
  refine lv_iconst (v := 1) hx hb dX5_best_3 (by decide) ?_
  obtain ⟨r2, w3, hq1, hf⟩ := qbd2_s hf
  refine q_callVi hC hR (mX5_marksInThought (qJ hC) hq1) (by decide) (qsh_228 G ad _) rfl qk_696 qk_698 qk_13 qk_19 qk_699 qhd_X5_marksInThought ⟨Nat.le_of_ble_eq_true rfl, Nat.le_of_ble_eq_true rfl⟩ hl.1 rfl (Nat.le_of_ble_eq_true rfl) dX5_best_4 ⟨Nat.zero_le _, Nat.zero_le _⟩ (fun H locs hR => ?_)
  refine lv_istore_n (lv' := [(2, .int r2), (1, .int 1), (0, .ref (ad 228))]) hx hb dX5_best_7 rfl hl (by decide) rfl (fun ls hl => ?_)
  refine lv_iconst (v := 2) hx hb dX5_best_8 (by decide) ?_
  refine lv_istore_n (lv' := [(3, .int 2), (2, .int r2), (1, .int 1), (0, .ref (ad 228))]) hx hb dX5_best_9 rfl hl (by decide) rfl (fun ls hl => ?_)
  exact mX5_best_L10 hC hr 100 _ _ _ _ _ _ _ hf hR (lv_sub hl [3, 2, 1, 0] rfl)
-- X5.leastBreaking
def fX5_leastBreaking_L2   : Nat → qMem → Int32 → Option (Nat × Int32 × qMem)
  | 0, _, _ => none
  | n + 1, w, x1 =>
    if (9 : Int32) < x1 then
      some (4, 0, w)
    else
      qbd2 (fX5_breakagesInThought w x1) fun (r3 : Int32) (w4 : qMem) =>
      if r3 ≤ 0 then
        qnm (x1 + 1) fun (x6 : Int32) =>
        fX5_leastBreaking_L2 n w4 x6
      else
        some (0, x1, w4)
set_option maxHeartbeats 4000000 in
set_option maxRecDepth 100000 in
theorem mX5_leastBreaking_L2 {p : Program} {l : Launch} {e : Env} {s : State} {m : MethodId} {args : Array Value} {below : List Frame} {meth : Method} {c0 : Code} {D : va_G} {G : Nat → ClassId} {ad : Nat → Nat}   {cF : Nat} {rF : Int32} {wF : qMem}  (hC : qCx p c0 cX5_leastBreaking 2 s m args meth RX5 D G ad) (hr : meth.sig.returnType = some .int) (hst : l.stackTraces = false) (ht : ∀ x ∈ c0.exceptionTable.toList, False)  : ∀ (n : Nat), ∀ (w : qMem) (x1 : Int32) (H : Heap) (locs : List Loc) (ls : Array Slot), fX5_leastBreaking_L2 n w x1 = some (cF, rF, wF) → qRp D G ad s w H locs → lv_has ls 2 [(0, .ref (ad 228)), (1, .int x1)] → W p l e (qrm 6 1 6) s m args below meth c0 H locs 0 0 (vx_MQ below (qxQI D G ad s cF rF wF) (qXC D G ad s cF wF) args s 1 6 (qAdr ad s.heap.size)) (F0 m 2 ls []) := by
  have hx := hC.1
  have hb := hC.2.1
  intro n
  induction n with
  | zero => intro w x1 H locs ls hf; exact nomatch (show (none : Option (Nat × Int32 × qMem)) = some _ from hf)
  | succ n ih =>
    intro w x1 H locs ls hf hR hl
    rw [fX5_leastBreaking_L2] at hf
    refine lv_iload_n hx hb dX5_leastBreaking_2 rfl (lv_at hl 1 rfl) ?_
    refine lv_bipush (v := 9) hx hb dX5_leastBreaking_3 (by decide) ?_
    refine lv_icmp_gt (tgt := 24) hx hb dX5_leastBreaking_5 (by decide) (fun c_1 => ?_) (fun c_1 => ?_)
    · have hf := qif_t hf c_1
      exact q_throwN hC hR hst ht (code := cF) (E := "java/util/NoSuchElementException") (text := "no shock would break something") (ik := 122) (is := 170) (ic := 126) (i := 31) (by rw [← (qso3 hf).1]; rfl) (by rw [← (qso3 hf).1]; decide) (qso3 hf).2.2 (by decide +kernel) qk_553 qxi_126 (by decide +kernel) qxw_126 hl.1 dX5_leastBreaking_24 dX5_leastBreaking_27 dX5_leastBreaking_28 dX5_leastBreaking_30 dX5_leastBreaking_33 (Nat.le_of_ble_eq_true rfl) (Nat.le_of_ble_eq_true rfl) (Nat.le_of_ble_eq_true rfl) (Nat.le_of_ble_eq_true rfl) (Nat.le_of_ble_eq_true rfl) (Nat.le_of_ble_eq_true rfl)
    · have hf := qif_f hf c_1
      refine lv_aload_n hx hb dX5_leastBreaking_8 rfl (lv_at hl 0 rfl) ?_
      refine lv_iload_n hx hb dX5_leastBreaking_9 rfl (lv_at hl 1 rfl) ?_
      obtain ⟨r3, w4, hq2, hf⟩ := qbd2_s hf
      refine q_callVi hC hR (mX5_breakagesInThought (qJ hC) hq2) (by decide) (qsh_228 G ad _) rfl qk_717 qk_719 qk_14 qk_19 qk_720 qhd_X5_breakagesInThought ⟨Nat.le_of_ble_eq_true rfl, Nat.le_of_ble_eq_true rfl⟩ hl.1 rfl (Nat.le_of_ble_eq_true rfl) dX5_leastBreaking_10 ⟨Nat.le_of_ble_eq_true rfl, Nat.le_of_ble_eq_true rfl⟩ (fun H locs hR => ?_)
      refine lv_if_le (tgt := 18) hx hb dX5_leastBreaking_13 (by decide) (fun c_5 => ?_) (fun c_5 => ?_)
      · have hf := qif_t hf c_5
        obtain ⟨x6, ex6⟩ : ∃ y : Int32, y = x1 + 1 := ⟨_, rfl⟩
        have hf := qnm_t hf ex6
        refine lv_iinc (v := x6) (lv' := [(1, .int x6), (0, .ref (ad 228))]) hx hb dX5_leastBreaking_18 hl (k := 1) rfl (by rw [ex6]; rfl) (by decide) rfl (fun ls hl => ?_)
        refine lv_goto (tgt := 2) hx hb dX5_leastBreaking_21 (by decide) ?_
        exact ih _ _ _ _ _ hf hR (lv_sub hl [1, 0] rfl)
      · have hf := qif_f hf c_5
        refine lv_iload_n hx hb dX5_leastBreaking_16 rfl (lv_at hl 1 rfl) ?_
        exact qx_iret hC hR hr rfl (qso3 hf).1.symm (qso3 hf).2.1 (qso3 hf).2.2 dX5_leastBreaking_17 (Nat.le_of_ble_eq_true rfl) (Nat.le_of_ble_eq_true rfl)
def fX5_leastBreaking (w : qMem)   : Option (Nat × Int32 × qMem) :=
  fX5_leastBreaking_L2 100 w 1
theorem qhd_X5_leastBreaking : yX5_leastBreaking.cls ≠ "java/lang/invoke/MethodHandle" ∧ yX5_leastBreaking.cls ≠ "java/lang/invoke/VarHandle" ∧ (parseMethodDescriptor yX5_leastBreaking.desc).map (fun d => d.parameters.length) = some 0 := ⟨by decide +kernel, by decide +kernel, by decide +kernel⟩
set_option maxHeartbeats 4000000 in
set_option maxRecDepth 100000 in
theorem mX5_leastBreaking {l : Launch} {D : va_G} {G : Nat → ClassId} {ad : Nat → Nat} (hJ : qInj ad) (hst : l.stackTraces = false) {w : qMem}    {cF : Nat} {rF : Int32} {wF : qMem} (hf : fX5_leastBreaking w = some (cF, rF, wF)) : qCX l D G ad yX5_leastBreaking cX5_leastBreaking 2 (some .int) 6 1 6 [.ref (ad 228)] w (fun st => qxQI D G ad st cF rF wF) cF wF := by
  refine qx_start RX5 rfl (by decide +kernel) hJ (fun a b h => by simp only [qxQI, qxQV, qxQR, qxQD, qxQF, h]) (Nat.le_of_ble_eq_true rfl) ?_
  intro p e s m args below meth c0 ls hC hr ht hR hl
  have hx := hC.1
  have hb := hC.2.1
  have hl : lv_has ls 2 [(0, .ref (ad 228))] := hl
  unfold fX5_leastBreaking at hf
  refine lv_iconst (v := 1) hx hb dX5_leastBreaking_0 (by decide) ?_
  refine lv_istore_n (lv' := [(1, .int 1), (0, .ref (ad 228))]) hx hb dX5_leastBreaking_1 rfl hl (by decide) rfl (fun ls hl => ?_)
  exact mX5_leastBreaking_L2 hC hr hst ht 100 _ _ _ _ _ hf hR (lv_sub hl [1, 0] rfl)
-- X5.shocksFor
def fX5_shocksFor_L26   : Nat → qMem → Int32 → Int32 → Option (Nat × Int32 × qMem)
  | 0, _, _, _ => none
  | n + 1, w, x1, x2 =>
    if (30 : Int32) < x2 then
      some (0, 0, w)
    else
      qbd2 (fX0_performShock w 1 (w 0 5)) fun (r12 : Int32) (w13 : qMem) =>
      qbd (fX0_propAt w13 1 x1) fun (r15 : Nat) =>
      if qisPb r15 = true then
      if w13 r15 4 = 0 then
        qnm (x2 + 1) fun (x18 : Int32) =>
        fX5_shocksFor_L26 n w13 x1 x18
      else
        some (0, x2, w13)
      else none
set_option maxHeartbeats 4000000 in
set_option maxRecDepth 100000 in
theorem mX5_shocksFor_L26 {p : Program} {l : Launch} {e : Env} {s : State} {m : MethodId} {args : Array Value} {below : List Frame} {meth : Method} {c0 : Code} {D : va_G} {G : Nat → ClassId} {ad : Nat → Nat}   {cF : Nat} {rF : Int32} {wF : qMem}  (hC : qCx p c0 cX5_shocksFor 3 s m args meth RX5 D G ad) (hr : meth.sig.returnType = some .int) (hst : l.stackTraces = false) (ht : ∀ x ∈ c0.exceptionTable.toList, False)  : ∀ (n : Nat), ∀ (w : qMem) (x1 : Int32) (x2 : Int32) (H : Heap) (locs : List Loc) (ls : Array Slot), fX5_shocksFor_L26 n w x1 x2 = some (cF, rF, wF) → qRp D G ad s w H locs → lv_has ls 3 [(0, .ref (ad 228)), (1, .int x1), (2, .int x2)] → W p l e (qrm 7 1 6) s m args below meth c0 H locs 1 6 (vx_MQ below (qxQI D G ad s cF rF wF) (qXC D G ad s cF wF) args s 1 6 (qAdr ad s.heap.size)) (F0 m 26 ls []) := by
  have hx := hC.1
  have hb := hC.2.1
  intro n
  induction n with
  | zero => intro w x1 x2 H locs ls hf; exact nomatch (show (none : Option (Nat × Int32 × qMem)) = some _ from hf)
  | succ n ih =>
    intro w x1 x2 H locs ls hf hR hl
    rw [fX5_shocksFor_L26] at hf
    refine lv_iload_n hx hb dX5_shocksFor_26 rfl (lv_at hl 2 rfl) ?_
    refine lv_bipush (v := 30) hx hb dX5_shocksFor_27 (by decide) ?_
    refine lv_icmp_gt (tgt := 69) hx hb dX5_shocksFor_29 (by decide) (fun c_10 => ?_) (fun c_10 => ?_)
    · have hf := qif_t hf c_10
      refine lv_iconst (v := 0) hx hb dX5_shocksFor_69 (by decide) ?_
      exact qx_iret hC hR hr rfl (qso3 hf).1.symm (qso3 hf).2.1 (qso3 hf).2.2 dX5_shocksFor_70 (Nat.le_of_ble_eq_true rfl) (Nat.le_of_ble_eq_true rfl)
    · have hf := qif_f hf c_10
      refine lv_aload_n hx hb dX5_shocksFor_32 rfl (lv_at hl 0 rfl) ?_
      refine qget_X5_1 hC hR qk_227 dX5_shocksFor_33 ?_
      refine lv_aload_n hx hb dX5_shocksFor_36 rfl (lv_at hl 0 rfl) ?_
      refine qget_X5_0 hC hR qk_226 dX5_shocksFor_37 ?_
      refine qget_X0_5 hC hR (show 0 < 12 by decide) qk_120 dX5_shocksFor_40 ?_
      obtain ⟨r12, w13, hq11, hf⟩ := qbd2_s hf
      refine q_callVi hC hR (mX0_performShock (qJ hC) (show 1 < 12 by decide) hq11) (by have := (show 1 < 12 by decide); omega) (qsh_hall G ad _ (show 1 < 12 by decide)) rfl qk_348 qk_349 qk_350 qk_20 qk_351 qhd_X0_performShock ⟨Nat.le_of_ble_eq_true rfl, Nat.le_of_ble_eq_true rfl⟩ hl.1 rfl (Nat.le_of_ble_eq_true rfl) dX5_shocksFor_43 ⟨Nat.le_of_ble_eq_true rfl, Nat.le_of_ble_eq_true rfl⟩ (fun H locs hR => ?_)
      refine lv_pop hx hb dX5_shocksFor_46 rfl ?_
      refine lv_aload_n hx hb dX5_shocksFor_47 rfl (lv_at hl 0 rfl) ?_
      refine qget_X5_1 hC hR qk_227 dX5_shocksFor_48 ?_
      refine lv_iload_n hx hb dX5_shocksFor_51 rfl (lv_at hl 1 rfl) ?_
      obtain ⟨r15, hq14, hf⟩ := qbd_s hf
      obtain ⟨g16, hf⟩ := qgd hf
      refine q_callVr hC hR (mX0_propAt (qJ hC) (show 1 < 12 by decide) hq14) (by have := (show 1 < 12 by decide); omega) (qsh_hall G ad _ (show 1 < 12 by decide)) rfl qk_343 qk_290 qk_291 qk_20 qk_292 qhd_X0_propAt ⟨Nat.le_of_ble_eq_true rfl, Nat.le_of_ble_eq_true rfl⟩ hl.1 rfl (Nat.le_of_ble_eq_true rfl) dX5_shocksFor_52 ⟨Nat.le_of_ble_eq_true rfl, Nat.le_of_ble_eq_true rfl⟩ (fun H locs hR => ?_)
      refine qget_X3_4 hC hR (qisPb_ok g16) qk_90 dX5_shocksFor_55 ?_
      refine lv_if_eq (tgt := 63) hx hb dX5_shocksFor_58 (by decide) (fun c_17 => ?_) (fun c_17 => ?_)
      · have hf := qif_t hf c_17
        obtain ⟨x18, ex18⟩ : ∃ y : Int32, y = x2 + 1 := ⟨_, rfl⟩
        have hf := qnm_t hf ex18
        refine lv_iinc (v := x18) (lv' := [(2, .int x18), (0, .ref (ad 228)), (1, .int x1)]) hx hb dX5_shocksFor_63 hl (k := 2) rfl (by rw [ex18]; rfl) (by decide) rfl (fun ls hl => ?_)
        refine lv_goto (tgt := 26) hx hb dX5_shocksFor_66 (by decide) ?_
        exact ih _ _ _ _ _ _ hf hR (lv_sub hl [1, 2, 0] rfl)
      · have hf := qif_f hf c_17
        refine lv_iload_n hx hb dX5_shocksFor_61 rfl (lv_at hl 2 rfl) ?_
        exact qx_iret hC hR hr rfl (qso3 hf).1.symm (qso3 hf).2.1 (qso3 hf).2.2 dX5_shocksFor_62 (Nat.le_of_ble_eq_true rfl) (Nat.le_of_ble_eq_true rfl)
def fX5_shocksFor (w : qMem)  (a1 : Int32) : Option (Nat × Int32 × qMem) :=
  qbd3 (fX5_propNumbered w a1) fun (k3 : Nat) (r5 : Nat) (w2 : qMem) =>
  if k3 = 0 then
  if qisPb r5 = true then
  if w2 r5 4 = 0 then
    qbd (fX0_copyFrom w2 1 0) fun (w9 : qMem) =>
    fX5_shocksFor_L26 100 w9 a1 1
  else
    some (0, 0, w2)
  else none
  else some (k3, 0, w2)
theorem qhd_X5_shocksFor : yX5_shocksFor.cls ≠ "java/lang/invoke/MethodHandle" ∧ yX5_shocksFor.cls ≠ "java/lang/invoke/VarHandle" ∧ (parseMethodDescriptor yX5_shocksFor.desc).map (fun d => d.parameters.length) = some 1 := ⟨by decide +kernel, by decide +kernel, by decide +kernel⟩
set_option maxHeartbeats 4000000 in
set_option maxRecDepth 100000 in
theorem mX5_shocksFor {l : Launch} {D : va_G} {G : Nat → ClassId} {ad : Nat → Nat} (hJ : qInj ad) (hst : l.stackTraces = false) {w : qMem}   {a1 : Int32} {cF : Nat} {rF : Int32} {wF : qMem} (hf : fX5_shocksFor w a1 = some (cF, rF, wF)) : qCX l D G ad yX5_shocksFor cX5_shocksFor 3 (some .int) 7 1 6 [.ref (ad 228), .int a1] w (fun st => qxQI D G ad st cF rF wF) cF wF := by
  refine qx_start RX5 rfl (by decide +kernel) hJ (fun a b h => by simp only [qxQI, qxQV, qxQR, qxQD, qxQF, h]) (Nat.le_of_ble_eq_true rfl) ?_
  intro p e s m args below meth c0 ls hC hr ht hR hl
  have hx := hC.1
  have hb := hC.2.1
  have hl : lv_has ls 3 [(0, .ref (ad 228)), (1, .int a1)] := hl
  unfold fX5_shocksFor at hf
  refine lv_aload_n hx hb dX5_shocksFor_0 rfl (lv_at hl 0 rfl) ?_
  refine lv_iload_n hx hb dX5_shocksFor_1 rfl (lv_at hl 1 rfl) ?_
  obtain ⟨k3, r5, w2, hq1, hf⟩ := qbd3_s hf
  refine qx_callVr hC hR (mX5_propNumbered (qJ hC) hst hq1) (by decide) (qsh_228 G ad _) rfl qk_654 qk_656 qk_12 qk_19 qk_657 qhd_X5_propNumbered ⟨Nat.le_of_ble_eq_true rfl, Nat.le_of_ble_eq_true rfl⟩ hl.1 rfl (Nat.le_of_ble_eq_true rfl) dX5_shocksFor_2 ⟨Nat.le_of_ble_eq_true rfl, Nat.le_of_ble_eq_true rfl⟩ (fun h4 H locs ce q9 hR hz1 hz2 hz3 => ?_) (fun h4 H locs hR => ?_)
  · have hf := qif_f hf h4
    exact qx_out hC hR ht (qso3 hf).1 h4 (qso3 hf).2.2 hz1 hz2 hz3 (Nat.le_of_ble_eq_true rfl) (Nat.le_of_ble_eq_true rfl)
  have hf := qif_t hf h4
  obtain ⟨g6, hf⟩ := qgd hf
  refine qget_X3_4 hC hR (qisPb_ok g6) qk_90 dX5_shocksFor_5 ?_
  refine lv_if_eq (tgt := 13) hx hb dX5_shocksFor_8 (by decide) (fun c_7 => ?_) (fun c_7 => ?_)
  · have hf := qif_t hf c_7
    refine lv_aload_n hx hb dX5_shocksFor_13 rfl (lv_at hl 0 rfl) ?_
    refine qget_X5_1 hC hR qk_227 dX5_shocksFor_14 ?_
    refine lv_aload_n hx hb dX5_shocksFor_17 rfl (lv_at hl 0 rfl) ?_
    refine qget_X5_0 hC hR qk_226 dX5_shocksFor_18 ?_
    obtain ⟨w9, hq8, hf⟩ := qbd_s hf
    refine q_callVv hC hR (mX0_copyFrom (qJ hC) (show 1 < 12 by decide) (show 0 < 12 by decide) hq8) (by have := (show 1 < 12 by decide); omega) (qsh_hall G ad _ (show 1 < 12 by decide)) rfl qk_700 qk_286 qk_287 qk_20 qk_288 qhd_X0_copyFrom ⟨Nat.le_of_ble_eq_true rfl, Nat.le_of_ble_eq_true rfl⟩ hl.1 rfl (Nat.le_of_ble_eq_true rfl) dX5_shocksFor_21 ⟨Nat.le_of_ble_eq_true rfl, Nat.le_of_ble_eq_true rfl⟩ (fun H locs hR => ?_)
    refine lv_iconst (v := 1) hx hb dX5_shocksFor_24 (by decide) ?_
    refine lv_istore_n (lv' := [(2, .int 1), (0, .ref (ad 228)), (1, .int a1)]) hx hb dX5_shocksFor_25 rfl hl (by decide) rfl (fun ls hl => ?_)
    exact mX5_shocksFor_L26 hC hr hst ht 100 _ _ _ _ _ _ hf hR (lv_sub hl [1, 2, 0] rfl)
  · have hf := qif_f hf c_7
    refine lv_iconst (v := 0) hx hb dX5_shocksFor_11 (by decide) ?_
    exact qx_iret hC hR hr rfl (qso3 hf).1.symm (qso3 hf).2.1 (qso3 hf).2.2 dX5_shocksFor_12 (Nat.le_of_ble_eq_true rfl) (Nat.le_of_ble_eq_true rfl)
-- X5.isBroken
def fX5_isBroken (w : qMem)  (a1 : Int32) : Option (Nat × Int32 × qMem) :=
  qbd3 (fX5_propNumbered w a1) fun (k3 : Nat) (r5 : Nat) (w2 : qMem) =>
  if k3 = 0 then
  if qisPb r5 = true then
  if qisB (w2 r5 4) = true then
  some (0, w2 r5 4, w2)
  else none
  else none
  else some (k3, 0, w2)
theorem qhd_X5_isBroken : yX5_isBroken.cls ≠ "java/lang/invoke/MethodHandle" ∧ yX5_isBroken.cls ≠ "java/lang/invoke/VarHandle" ∧ (parseMethodDescriptor yX5_isBroken.desc).map (fun d => d.parameters.length) = some 1 := ⟨by decide +kernel, by decide +kernel, by decide +kernel⟩
set_option maxHeartbeats 4000000 in
set_option maxRecDepth 100000 in
theorem mX5_isBroken {l : Launch} {D : va_G} {G : Nat → ClassId} {ad : Nat → Nat} (hJ : qInj ad) (hst : l.stackTraces = false) {w : qMem}   {a1 : Int32} {cF : Nat} {rF : Int32} {wF : qMem} (hf : fX5_isBroken w a1 = some (cF, rF, wF)) : qCX l D G ad yX5_isBroken cX5_isBroken 2 (some .boolean) 7 1 6 [.ref (ad 228), .int a1] w (fun st => qxQI D G ad st cF rF wF) cF wF := by
  refine qx_start RX5 rfl (by decide +kernel) hJ (fun a b h => by simp only [qxQI, qxQV, qxQR, qxQD, qxQF, h]) (Nat.le_of_ble_eq_true rfl) ?_
  intro p e s m args below meth c0 ls hC hr ht hR hl
  have hx := hC.1
  have hb := hC.2.1
  have hl : lv_has ls 2 [(0, .ref (ad 228)), (1, .int a1)] := hl
  unfold fX5_isBroken at hf
  refine lv_aload_n hx hb dX5_isBroken_0 rfl (lv_at hl 0 rfl) ?_
  refine lv_iload_n hx hb dX5_isBroken_1 rfl (lv_at hl 1 rfl) ?_
  obtain ⟨k3, r5, w2, hq1, hf⟩ := qbd3_s hf
  refine qx_callVr hC hR (mX5_propNumbered (qJ hC) hst hq1) (by decide) (qsh_228 G ad _) rfl qk_654 qk_656 qk_12 qk_19 qk_657 qhd_X5_propNumbered ⟨Nat.le_of_ble_eq_true rfl, Nat.le_of_ble_eq_true rfl⟩ hl.1 rfl (Nat.le_of_ble_eq_true rfl) dX5_isBroken_2 ⟨Nat.le_of_ble_eq_true rfl, Nat.le_of_ble_eq_true rfl⟩ (fun h4 H locs ce q9 hR hz1 hz2 hz3 => ?_) (fun h4 H locs hR => ?_)
  · have hf := qif_f hf h4
    exact qx_out hC hR ht (qso3 hf).1 h4 (qso3 hf).2.2 hz1 hz2 hz3 (Nat.le_of_ble_eq_true rfl) (Nat.le_of_ble_eq_true rfl)
  have hf := qif_t hf h4
  obtain ⟨g6, hf⟩ := qgd hf
  refine qget_X3_4 hC hR (qisPb_ok g6) qk_90 dX5_isBroken_5 ?_
  obtain ⟨g7, hf⟩ := qgd hf
  exact qx_iret hC hR hr (qisB_ok g7).1 (qso3 hf).1.symm (qso3 hf).2.1 (qso3 hf).2.2 dX5_isBroken_8 (Nat.le_of_ble_eq_true rfl) (Nat.le_of_ble_eq_true rfl)
-- X5.cupAt
def fX5_cupAt (w : qMem)  (a1 : Int32) : Option (Nat × Int32 × qMem) :=
  qbd3 (fX5_numberInOrder w 1 a1) fun (k3 : Nat) (r5 : Int32) (w2 : qMem) =>
  if k3 = 0 then
  some (0, r5, w2)
  else some (k3, 0, w2)
theorem qhd_X5_cupAt : yX5_cupAt.cls ≠ "java/lang/invoke/MethodHandle" ∧ yX5_cupAt.cls ≠ "java/lang/invoke/VarHandle" ∧ (parseMethodDescriptor yX5_cupAt.desc).map (fun d => d.parameters.length) = some 1 := ⟨by decide +kernel, by decide +kernel, by decide +kernel⟩
set_option maxHeartbeats 4000000 in
set_option maxRecDepth 100000 in
theorem mX5_cupAt {l : Launch} {D : va_G} {G : Nat → ClassId} {ad : Nat → Nat} (hJ : qInj ad) (hst : l.stackTraces = false) {w : qMem}   {a1 : Int32} {cF : Nat} {rF : Int32} {wF : qMem} (hf : fX5_cupAt w a1 = some (cF, rF, wF)) : qCX l D G ad yX5_cupAt cX5_cupAt 2 (some .int) 7 1 6 [.ref (ad 228), .int a1] w (fun st => qxQI D G ad st cF rF wF) cF wF := by
  refine qx_start RX5 rfl (by decide +kernel) hJ (fun a b h => by simp only [qxQI, qxQV, qxQR, qxQD, qxQF, h]) (Nat.le_of_ble_eq_true rfl) ?_
  intro p e s m args below meth c0 ls hC hr ht hR hl
  have hx := hC.1
  have hb := hC.2.1
  have hl : lv_has ls 2 [(0, .ref (ad 228)), (1, .int a1)] := hl
  unfold fX5_cupAt at hf
  refine lv_aload_n hx hb dX5_cupAt_0 rfl (lv_at hl 0 rfl) ?_
  refine lv_iconst (v := 1) hx hb dX5_cupAt_1 (by decide) ?_
  refine lv_iload_n hx hb dX5_cupAt_2 rfl (lv_at hl 1 rfl) ?_
  obtain ⟨k3, r5, w2, hq1, hf⟩ := qbd3_s hf
  refine qx_callVi hC hR (mX5_numberInOrder (qJ hC) hst hq1) (by decide) (qsh_228 G ad _) rfl qk_789 qk_791 qk_17 qk_19 qk_792 qhd_X5_numberInOrder ⟨Nat.le_of_ble_eq_true rfl, Nat.le_of_ble_eq_true rfl⟩ hl.1 rfl (Nat.le_of_ble_eq_true rfl) dX5_cupAt_3 ⟨Nat.le_of_ble_eq_true rfl, Nat.le_of_ble_eq_true rfl⟩ (fun h4 H locs ce q9 hR hz1 hz2 hz3 => ?_) (fun h4 H locs hR => ?_)
  · have hf := qif_f hf h4
    exact qx_out hC hR ht (qso3 hf).1 h4 (qso3 hf).2.2 hz1 hz2 hz3 (Nat.le_of_ble_eq_true rfl) (Nat.le_of_ble_eq_true rfl)
  have hf := qif_t hf h4
  exact qx_iret hC hR hr rfl (qso3 hf).1.symm (qso3 hf).2.1 (qso3 hf).2.2 dX5_cupAt_6 (Nat.le_of_ble_eq_true rfl) (Nat.le_of_ble_eq_true rfl)
-- X5.lampAt
def fX5_lampAt (w : qMem)  (a1 : Int32) : Option (Nat × Int32 × qMem) :=
  qbd3 (fX5_numberInOrder w 2 a1) fun (k3 : Nat) (r5 : Int32) (w2 : qMem) =>
  if k3 = 0 then
  some (0, r5, w2)
  else some (k3, 0, w2)
theorem qhd_X5_lampAt : yX5_lampAt.cls ≠ "java/lang/invoke/MethodHandle" ∧ yX5_lampAt.cls ≠ "java/lang/invoke/VarHandle" ∧ (parseMethodDescriptor yX5_lampAt.desc).map (fun d => d.parameters.length) = some 1 := ⟨by decide +kernel, by decide +kernel, by decide +kernel⟩
set_option maxHeartbeats 4000000 in
set_option maxRecDepth 100000 in
theorem mX5_lampAt {l : Launch} {D : va_G} {G : Nat → ClassId} {ad : Nat → Nat} (hJ : qInj ad) (hst : l.stackTraces = false) {w : qMem}   {a1 : Int32} {cF : Nat} {rF : Int32} {wF : qMem} (hf : fX5_lampAt w a1 = some (cF, rF, wF)) : qCX l D G ad yX5_lampAt cX5_lampAt 2 (some .int) 7 1 6 [.ref (ad 228), .int a1] w (fun st => qxQI D G ad st cF rF wF) cF wF := by
  refine qx_start RX5 rfl (by decide +kernel) hJ (fun a b h => by simp only [qxQI, qxQV, qxQR, qxQD, qxQF, h]) (Nat.le_of_ble_eq_true rfl) ?_
  intro p e s m args below meth c0 ls hC hr ht hR hl
  have hx := hC.1
  have hb := hC.2.1
  have hl : lv_has ls 2 [(0, .ref (ad 228)), (1, .int a1)] := hl
  unfold fX5_lampAt at hf
  refine lv_aload_n hx hb dX5_lampAt_0 rfl (lv_at hl 0 rfl) ?_
  refine lv_iconst (v := 2) hx hb dX5_lampAt_1 (by decide) ?_
  refine lv_iload_n hx hb dX5_lampAt_2 rfl (lv_at hl 1 rfl) ?_
  obtain ⟨k3, r5, w2, hq1, hf⟩ := qbd3_s hf
  refine qx_callVi hC hR (mX5_numberInOrder (qJ hC) hst hq1) (by decide) (qsh_228 G ad _) rfl qk_789 qk_791 qk_17 qk_19 qk_792 qhd_X5_numberInOrder ⟨Nat.le_of_ble_eq_true rfl, Nat.le_of_ble_eq_true rfl⟩ hl.1 rfl (Nat.le_of_ble_eq_true rfl) dX5_lampAt_3 ⟨Nat.le_of_ble_eq_true rfl, Nat.le_of_ble_eq_true rfl⟩ (fun h4 H locs ce q9 hR hz1 hz2 hz3 => ?_) (fun h4 H locs hR => ?_)
  · have hf := qif_f hf h4
    exact qx_out hC hR ht (qso3 hf).1 h4 (qso3 hf).2.2 hz1 hz2 hz3 (Nat.le_of_ble_eq_true rfl) (Nat.le_of_ble_eq_true rfl)
  have hf := qif_t hf h4
  exact qx_iret hC hR hr rfl (qso3 hf).1.symm (qso3 hf).2.1 (qso3 hf).2.2 dX5_lampAt_6 (Nat.le_of_ble_eq_true rfl) (Nat.le_of_ble_eq_true rfl)
-- X5.catAt
def fX5_catAt (w : qMem)  (a1 : Int32) : Option (Nat × Int32 × qMem) :=
  qbd3 (fX5_numberInOrder w 3 a1) fun (k3 : Nat) (r5 : Int32) (w2 : qMem) =>
  if k3 = 0 then
  some (0, r5, w2)
  else some (k3, 0, w2)
theorem qhd_X5_catAt : yX5_catAt.cls ≠ "java/lang/invoke/MethodHandle" ∧ yX5_catAt.cls ≠ "java/lang/invoke/VarHandle" ∧ (parseMethodDescriptor yX5_catAt.desc).map (fun d => d.parameters.length) = some 1 := ⟨by decide +kernel, by decide +kernel, by decide +kernel⟩
set_option maxHeartbeats 4000000 in
set_option maxRecDepth 100000 in
theorem mX5_catAt {l : Launch} {D : va_G} {G : Nat → ClassId} {ad : Nat → Nat} (hJ : qInj ad) (hst : l.stackTraces = false) {w : qMem}   {a1 : Int32} {cF : Nat} {rF : Int32} {wF : qMem} (hf : fX5_catAt w a1 = some (cF, rF, wF)) : qCX l D G ad yX5_catAt cX5_catAt 2 (some .int) 7 1 6 [.ref (ad 228), .int a1] w (fun st => qxQI D G ad st cF rF wF) cF wF := by
  refine qx_start RX5 rfl (by decide +kernel) hJ (fun a b h => by simp only [qxQI, qxQV, qxQR, qxQD, qxQF, h]) (Nat.le_of_ble_eq_true rfl) ?_
  intro p e s m args below meth c0 ls hC hr ht hR hl
  have hx := hC.1
  have hb := hC.2.1
  have hl : lv_has ls 2 [(0, .ref (ad 228)), (1, .int a1)] := hl
  unfold fX5_catAt at hf
  refine lv_aload_n hx hb dX5_catAt_0 rfl (lv_at hl 0 rfl) ?_
  refine lv_iconst (v := 3) hx hb dX5_catAt_1 (by decide) ?_
  refine lv_iload_n hx hb dX5_catAt_2 rfl (lv_at hl 1 rfl) ?_
  obtain ⟨k3, r5, w2, hq1, hf⟩ := qbd3_s hf
  refine qx_callVi hC hR (mX5_numberInOrder (qJ hC) hst hq1) (by decide) (qsh_228 G ad _) rfl qk_789 qk_791 qk_17 qk_19 qk_792 qhd_X5_numberInOrder ⟨Nat.le_of_ble_eq_true rfl, Nat.le_of_ble_eq_true rfl⟩ hl.1 rfl (Nat.le_of_ble_eq_true rfl) dX5_catAt_3 ⟨Nat.le_of_ble_eq_true rfl, Nat.le_of_ble_eq_true rfl⟩ (fun h4 H locs ce q9 hR hz1 hz2 hz3 => ?_) (fun h4 H locs hR => ?_)
  · have hf := qif_f hf h4
    exact qx_out hC hR ht (qso3 hf).1 h4 (qso3 hf).2.2 hz1 hz2 hz3 (Nat.le_of_ble_eq_true rfl) (Nat.le_of_ble_eq_true rfl)
  have hf := qif_t hf h4
  exact qx_iret hC hR hr rfl (qso3 hf).1.symm (qso3 hf).2.1 (qso3 hf).2.2 dX5_catAt_6 (Nat.le_of_ble_eq_true rfl) (Nat.le_of_ble_eq_true rfl)
-- X5.line
def fX5_line (w : qMem)  (a1 : Int32) : Option (Nat × Int32 × qMem) :=
  qbd3 (fX5_propNumbered w a1) fun (k3 : Nat) (r5 : Nat) (w2 : qMem) =>
  if k3 = 0 then
  if qisPb r5 = true then
  qbd (fX2_writeProp w2 r5) fun (w8 : qMem) =>
  some (0, w8 236 1, w8)
  else none
  else some (k3, 0, w2)
theorem qhd_X5_line : yX5_line.cls ≠ "java/lang/invoke/MethodHandle" ∧ yX5_line.cls ≠ "java/lang/invoke/VarHandle" ∧ (parseMethodDescriptor yX5_line.desc).map (fun d => d.parameters.length) = some 1 := ⟨by decide +kernel, by decide +kernel, by decide +kernel⟩
set_option maxHeartbeats 4000000 in
set_option maxRecDepth 100000 in
theorem mX5_line {l : Launch} {D : va_G} {G : Nat → ClassId} {ad : Nat → Nat} (hJ : qInj ad) (hst : l.stackTraces = false) {w : qMem}   {a1 : Int32} {cF : Nat} {rF : Int32} {wF : qMem} (hf : fX5_line w a1 = some (cF, rF, wF)) : qCX l D G ad yX5_line cX5_line 2 (some .int) 7 1 6 [.ref (ad 228), .int a1] w (fun st => qxQI D G ad st cF rF wF) cF wF := by
  refine qx_start RX5 rfl (by decide +kernel) hJ (fun a b h => by simp only [qxQI, qxQV, qxQR, qxQD, qxQF, h]) (Nat.le_of_ble_eq_true rfl) ?_
  intro p e s m args below meth c0 ls hC hr ht hR hl
  have hx := hC.1
  have hb := hC.2.1
  have hl : lv_has ls 2 [(0, .ref (ad 228)), (1, .int a1)] := hl
  unfold fX5_line at hf
  refine lv_aload_n hx hb dX5_line_0 rfl (lv_at hl 0 rfl) ?_
  refine qget_X5_5 hC hR qk_231 dX5_line_1 ?_
  refine lv_aload_n hx hb dX5_line_4 rfl (lv_at hl 0 rfl) ?_
  refine lv_iload_n hx hb dX5_line_5 rfl (lv_at hl 1 rfl) ?_
  obtain ⟨k3, r5, w2, hq1, hf⟩ := qbd3_s hf
  refine qx_callVr hC hR (mX5_propNumbered (qJ hC) hst hq1) (by decide) (qsh_228 G ad _) rfl qk_654 qk_656 qk_12 qk_19 qk_657 qhd_X5_propNumbered ⟨Nat.le_of_ble_eq_true rfl, Nat.le_of_ble_eq_true rfl⟩ hl.1 rfl (Nat.le_of_ble_eq_true rfl) dX5_line_6 ⟨Nat.le_of_ble_eq_true rfl, Nat.le_of_ble_eq_true rfl⟩ (fun h4 H locs ce q9 hR hz1 hz2 hz3 => ?_) (fun h4 H locs hR => ?_)
  · have hf := qif_f hf h4
    exact qx_out hC hR ht (qso3 hf).1 h4 (qso3 hf).2.2 hz1 hz2 hz3 (Nat.le_of_ble_eq_true rfl) (Nat.le_of_ble_eq_true rfl)
  have hf := qif_t hf h4
  obtain ⟨g6, hf⟩ := qgd hf
  obtain ⟨w8, hq7, hf⟩ := qbd_s hf
  refine q_callVv hC hR (mX2_writeProp (qJ hC) (qisPb_ok g6) hq7) (by decide) (qsh_236 G ad _) rfl qk_1157 qk_1158 qk_1159 qk_24 qk_1160 qhd_X2_writeProp ⟨Nat.le_of_ble_eq_true rfl, Nat.le_of_ble_eq_true rfl⟩ hl.1 rfl (Nat.le_of_ble_eq_true rfl) dX5_line_9 ⟨Nat.le_of_ble_eq_true rfl, Nat.le_of_ble_eq_true rfl⟩ (fun H locs hR => ?_)
  refine lv_aload_n hx hb dX5_line_12 rfl (lv_at hl 0 rfl) ?_
  refine qget_X5_5 hC hR qk_231 dX5_line_13 ?_
  refine qget_X2_1 hC hR qk_220 dX5_line_16 ?_
  exact qx_iret hC hR hr rfl (qso3 hf).1.symm (qso3 hf).2.1 (qso3 hf).2.2 dX5_line_19 (Nat.le_of_ble_eq_true rfl) (Nat.le_of_ble_eq_true rfl)
-- X5.isWell
def fX5_isWell (w : qMem)   : Option (Int32 × qMem) :=
  qbd2 (fX5_isReachAlike w) fun (r2 : Int32) (w3 : qMem) =>
  if r2 = 0 then
    some (0, w3)
  else
    qbd2 (fX5_areBreakagesAlike w3) fun (r6 : Int32) (w7 : qMem) =>
    if r6 = 0 then
      some (0, w7)
    else
      qbd (fX0_isDamageRight w7 0) fun (r10 : Int32) =>
      if r10 = 0 then
        some (0, w7)
      else
        some (1, w7)
theorem qhd_X5_isWell : yX5_isWell.cls ≠ "java/lang/invoke/MethodHandle" ∧ yX5_isWell.cls ≠ "java/lang/invoke/VarHandle" ∧ (parseMethodDescriptor yX5_isWell.desc).map (fun d => d.parameters.length) = some 0 := ⟨by decide +kernel, by decide +kernel, by decide +kernel⟩
set_option maxHeartbeats 4000000 in
set_option maxRecDepth 100000 in
theorem mX5_isWell {l : Launch} {D : va_G} {G : Nat → ClassId} {ad : Nat → Nat} (hJ : qInj ad) {w : qMem}    {rF : Int32} {wF : qMem} (hf : fX5_isWell w = some (rF, wF)) : qCMi l D G ad yX5_isWell cX5_isWell 1 (some .boolean) 7 0 0 [.ref (ad 228)] w rF wF := by
  refine q_start RX5 rfl (by decide +kernel) hJ (fun a b h => by simp only [qQI, qQV, qQR, qQD, qQF, h]) (Nat.le_of_ble_eq_true rfl) ?_
  intro p e s m args below meth c0 ls hC hr hR hl
  have hx := hC.1
  have hb := hC.2.1
  have hl : lv_has ls 1 [(0, .ref (ad 228))] := hl
  unfold fX5_isWell at hf
  refine lv_aload_n hx hb dX5_isWell_0 rfl (lv_at hl 0 rfl) ?_
  obtain ⟨r2, w3, hq1, hf⟩ := qbd2_s hf
  refine q_callVi hC hR (mX5_isReachAlike (qJ hC) hq1) (by decide) (qsh_228 G ad _) rfl qk_763 qk_765 qk_15 qk_19 qk_766 qhd_X5_isReachAlike ⟨Nat.le_of_ble_eq_true rfl, Nat.le_of_ble_eq_true rfl⟩ hl.1 rfl (Nat.le_of_ble_eq_true rfl) dX5_isWell_1 ⟨Nat.zero_le _, Nat.zero_le _⟩ (fun H locs hR => ?_)
  refine lv_if_eq (tgt := 28) hx hb dX5_isWell_4 (by decide) (fun c_4 => ?_) (fun c_4 => ?_)
  · have hf := qif_t hf c_4
    refine lv_iconst (v := 0) hx hb dX5_isWell_28 (by decide) ?_
    exact q_iret hC hR hr (by decide) (qso2 hf).1 (qso2 hf).2 dX5_isWell_29
  · have hf := qif_f hf c_4
    refine lv_aload_n hx hb dX5_isWell_7 rfl (lv_at hl 0 rfl) ?_
    obtain ⟨r6, w7, hq5, hf⟩ := qbd2_s hf
    refine q_callVi hC hR (mX5_areBreakagesAlike (qJ hC) hq5) (by decide) (qsh_228 G ad _) rfl qk_767 qk_769 qk_16 qk_19 qk_770 qhd_X5_areBreakagesAlike ⟨Nat.le_of_ble_eq_true rfl, Nat.le_of_ble_eq_true rfl⟩ hl.1 rfl (Nat.le_of_ble_eq_true rfl) dX5_isWell_8 ⟨Nat.zero_le _, Nat.zero_le _⟩ (fun H locs hR => ?_)
    refine lv_if_eq (tgt := 28) hx hb dX5_isWell_11 (by decide) (fun c_8 => ?_) (fun c_8 => ?_)
    · have hf := qif_t hf c_8
      refine lv_iconst (v := 0) hx hb dX5_isWell_28 (by decide) ?_
      exact q_iret hC hR hr (by decide) (qso2 hf).1 (qso2 hf).2 dX5_isWell_29
    · have hf := qif_f hf c_8
      refine lv_aload_n hx hb dX5_isWell_14 rfl (lv_at hl 0 rfl) ?_
      refine qget_X5_0 hC hR qk_226 dX5_isWell_15 ?_
      obtain ⟨r10, hq9, hf⟩ := qbd_s hf
      refine q_callVi hC hR (mX0_isDamageRight (qJ hC) (show 0 < 12 by decide) hq9) (by have := (show 0 < 12 by decide); omega) (qsh_hall G ad _ (show 0 < 12 by decide)) rfl qk_771 qk_772 qk_773 qk_20 qk_774 qhd_X0_isDamageRight ⟨Nat.le_of_ble_eq_true rfl, Nat.le_of_ble_eq_true rfl⟩ hl.1 rfl (Nat.le_of_ble_eq_true rfl) dX5_isWell_18 ⟨Nat.zero_le _, Nat.zero_le _⟩ (fun H locs hR => ?_)
      refine lv_if_eq (tgt := 28) hx hb dX5_isWell_21 (by decide) (fun c_11 => ?_) (fun c_11 => ?_)
      · have hf := qif_t hf c_11
        refine lv_iconst (v := 0) hx hb dX5_isWell_28 (by decide) ?_
        exact q_iret hC hR hr (by decide) (qso2 hf).1 (qso2 hf).2 dX5_isWell_29
      · have hf := qif_f hf c_11
        refine lv_iconst (v := 1) hx hb dX5_isWell_24 (by decide) ?_
        refine lv_goto (tgt := 29) hx hb dX5_isWell_25 (by decide) ?_
        exact q_iret hC hR hr (by decide) (qso2 hf).1 (qso2 hf).2 dX5_isWell_29
-- X5.tryPlacing
def fX5_tryPlacing_L10   (w : qMem) (x1 : Int32) (x2 : Int32) (x3 : Int32) (s0 : Int32) : Option (Int32 × qMem) :=
  qbd (fX5_isFloor w x2) fun (r3 : Int32) =>
  if r3 = 0 then
    some (2, w)
  else
    if x3 < s0 then
      some (2, w)
    else
      if x3 ≤ 9 then
        if w 0 2 < 12 then
          qbd (fX0_countOn w 0 x1 x2) fun (r9 : Int32) =>
          if r9 < 5 then
            qbd2 (fX0_placeProp w 0 x1 x2 x3) fun (r12 : Int32) (w13 : qMem) =>
            qbd2 (fX5_answered w13 r12) fun (r15 : Int32) (w16 : qMem) =>
            some (r15, w16)
          else
            qbd2 (fX5_refuse w 2 x2) fun (r18 : Int32) (w19 : qMem) =>
            some (r18, w19)
        else
          qbd2 (fX5_refuse w 1 (w 0 2)) fun (r21 : Int32) (w22 : qMem) =>
          some (r21, w22)
      else
        some (2, w)
set_option maxHeartbeats 4000000 in
set_option maxRecDepth 100000 in
theorem mX5_tryPlacing_L10 {p : Program} {l : Launch} {e : Env} {s : State} {m : MethodId} {args : Array Value} {below : List Frame} {meth : Method} {c0 : Code} {D : va_G} {G : Nat → ClassId} {ad : Nat → Nat}   {rF : Int32} {wF : qMem}  (hC : qCx p c0 cX5_tryPlacing 5 s m args meth RX5 D G ad) (hr : meth.sig.returnType = some .int)  : ∀ (w : qMem) (x1 : Int32) (x2 : Int32) (x3 : Int32) (s0 : Int32) (H : Heap) (locs : List Loc) (ls : Array Slot), fX5_tryPlacing_L10 w x1 x2 x3 s0 = some (rF, wF) → qRp D G ad s w H locs → lv_has ls 5 [(0, .ref (ad 228)), (1, .int x1), (2, .int x2), (3, .int x3)] → W p l e (qrm 3 0 0) s m args below meth c0 H locs 0 0 (MQ below (qQI D G ad s wF rF) args s 0 0 (qAdr ad s.heap.size)) (F0 m 10 ls [.int s0]) := by
  have hx := hC.1
  have hb := hC.2.1
  intro w x1 x2 x3 s0 H locs ls hf hR hl
  unfold fX5_tryPlacing_L10 at hf
  refine lv_istore (lv' := [(4, .int s0), (0, .ref (ad 228)), (1, .int x1), (2, .int x2), (3, .int x3)]) hx hb dX5_tryPlacing_10 hl (by decide) rfl (fun ls hl => ?_)
  refine lv_iload_n hx hb dX5_tryPlacing_12 rfl (lv_at hl 3 rfl) ?_
  obtain ⟨r3, hq2, hf⟩ := qbd_s hf
  refine q_callSi hC hR (mX5_isFloor (qJ hC) hq2) qk_305 qk_306 qk_19 qk_307 qhd_X5_isFloor ⟨Nat.le_of_ble_eq_true rfl, Nat.le_of_ble_eq_true rfl⟩ hl.1 rfl (Nat.le_of_ble_eq_true rfl) dX5_tryPlacing_13 ⟨Nat.zero_le _, Nat.zero_le _⟩ (fun H locs hR => ?_)
  refine lv_if_eq (tgt := 31) hx hb dX5_tryPlacing_16 (by decide) (fun c_4 => ?_) (fun c_4 => ?_)
  · have hf := qif_t hf c_4
    refine lv_iconst (v := 2) hx hb dX5_tryPlacing_31 (by decide) ?_
    exact q_iret hC hR hr rfl (qso2 hf).1 (qso2 hf).2 dX5_tryPlacing_32
  · have hf := qif_f hf c_4
    refine lv_iload_n hx hb dX5_tryPlacing_19 rfl (lv_at hl 4 rfl) ?_
    refine lv_iload hx hb dX5_tryPlacing_20 (lv_at hl 0 rfl) ?_
    refine lv_icmp_lt (tgt := 31) hx hb dX5_tryPlacing_22 (by decide) (fun c_5 => ?_) (fun c_5 => ?_)
    · have hf := qif_t hf c_5
      refine lv_iconst (v := 2) hx hb dX5_tryPlacing_31 (by decide) ?_
      exact q_iret hC hR hr rfl (qso2 hf).1 (qso2 hf).2 dX5_tryPlacing_32
    · have hf := qif_f hf c_5
      refine lv_iload_n hx hb dX5_tryPlacing_25 rfl (lv_at hl 4 rfl) ?_
      refine lv_bipush (v := 9) hx hb dX5_tryPlacing_26 (by decide) ?_
      refine lv_icmp_le (tgt := 33) hx hb dX5_tryPlacing_28 (by decide) (fun c_6 => ?_) (fun c_6 => ?_)
      · have hf := qif_t hf c_6
        refine lv_aload_n hx hb dX5_tryPlacing_33 rfl (lv_at hl 1 rfl) ?_
        refine qget_X5_0 hC hR qk_226 dX5_tryPlacing_34 ?_
        refine qget_X0_2 hC hR (show 0 < 12 by decide) qk_114 dX5_tryPlacing_37 ?_
        refine lv_bipush (v := 12) hx hb dX5_tryPlacing_40 (by decide) ?_
        refine lv_icmp_lt (tgt := 58) hx hb dX5_tryPlacing_42 (by decide) (fun c_7 => ?_) (fun c_7 => ?_)
        · have hf := qif_t hf c_7
          refine lv_aload_n hx hb dX5_tryPlacing_58 rfl (lv_at hl 1 rfl) ?_
          refine qget_X5_0 hC hR qk_226 dX5_tryPlacing_59 ?_
          refine lv_iload_n hx hb dX5_tryPlacing_62 rfl (lv_at hl 2 rfl) ?_
          refine lv_iload_n hx hb dX5_tryPlacing_63 rfl (lv_at hl 3 rfl) ?_
          obtain ⟨r9, hq8, hf⟩ := qbd_s hf
          refine q_callVi hC hR (mX0_countOn (qJ hC) (show 0 < 12 by decide) hq8) (by have := (show 0 < 12 by decide); omega) (qsh_hall G ad _ (show 0 < 12 by decide)) rfl qk_312 qk_313 qk_314 qk_20 qk_315 qhd_X0_countOn ⟨Nat.le_of_ble_eq_true rfl, Nat.le_of_ble_eq_true rfl⟩ hl.1 rfl (Nat.le_of_ble_eq_true rfl) dX5_tryPlacing_64 ⟨Nat.zero_le _, Nat.zero_le _⟩ (fun H locs hR => ?_)
          refine lv_iconst (v := 5) hx hb dX5_tryPlacing_67 (by decide) ?_
          refine lv_icmp_lt (tgt := 78) hx hb dX5_tryPlacing_68 (by decide) (fun c_10 => ?_) (fun c_10 => ?_)
          · have hf := qif_t hf c_10
            refine lv_aload_n hx hb dX5_tryPlacing_78 rfl (lv_at hl 1 rfl) ?_
            refine lv_aload_n hx hb dX5_tryPlacing_79 rfl (lv_at hl 1 rfl) ?_
            refine qget_X5_0 hC hR qk_226 dX5_tryPlacing_80 ?_
            refine lv_iload_n hx hb dX5_tryPlacing_83 rfl (lv_at hl 2 rfl) ?_
            refine lv_iload_n hx hb dX5_tryPlacing_84 rfl (lv_at hl 3 rfl) ?_
            refine lv_iload_n hx hb dX5_tryPlacing_85 rfl (lv_at hl 4 rfl) ?_
            obtain ⟨r12, w13, hq11, hf⟩ := qbd2_s hf
            refine q_callVi hC hR (mX0_placeProp (qJ hC) (show 0 < 12 by decide) hq11) (by have := (show 0 < 12 by decide); omega) (qsh_hall G ad _ (show 0 < 12 by decide)) rfl qk_316 qk_317 qk_318 qk_20 qk_319 qhd_X0_placeProp ⟨Nat.le_of_ble_eq_true rfl, Nat.le_of_ble_eq_true rfl⟩ hl.1 rfl (Nat.le_of_ble_eq_true rfl) dX5_tryPlacing_86 ⟨Nat.zero_le _, Nat.zero_le _⟩ (fun H locs hR => ?_)
            obtain ⟨r15, w16, hq14, hf⟩ := qbd2_s hf
            refine q_callVi hC hR (mX5_answered (qJ hC) hq14) (by decide) (qsh_228 G ad _) rfl qk_324 qk_326 qk_5 qk_19 qk_327 qhd_X5_answered ⟨Nat.le_of_ble_eq_true rfl, Nat.le_of_ble_eq_true rfl⟩ hl.1 rfl (Nat.le_of_ble_eq_true rfl) dX5_tryPlacing_89 ⟨Nat.zero_le _, Nat.zero_le _⟩ (fun H locs hR => ?_)
            exact q_iret hC hR hr rfl (qso2 hf).1 (qso2 hf).2 dX5_tryPlacing_92
          · have hf := qif_f hf c_10
            refine lv_aload_n hx hb dX5_tryPlacing_71 rfl (lv_at hl 1 rfl) ?_
            refine lv_iconst (v := 2) hx hb dX5_tryPlacing_72 (by decide) ?_
            refine lv_iload_n hx hb dX5_tryPlacing_73 rfl (lv_at hl 3 rfl) ?_
            obtain ⟨r18, w19, hq17, hf⟩ := qbd2_s hf
            refine q_callVi hC hR (mX5_refuse (qJ hC) hq17) (by decide) (qsh_228 G ad _) rfl qk_308 qk_310 qk_4 qk_19 qk_311 qhd_X5_refuse ⟨Nat.le_of_ble_eq_true rfl, Nat.le_of_ble_eq_true rfl⟩ hl.1 rfl (Nat.le_of_ble_eq_true rfl) dX5_tryPlacing_74 ⟨Nat.zero_le _, Nat.zero_le _⟩ (fun H locs hR => ?_)
            exact q_iret hC hR hr rfl (qso2 hf).1 (qso2 hf).2 dX5_tryPlacing_77
        · have hf := qif_f hf c_7
          refine lv_aload_n hx hb dX5_tryPlacing_45 rfl (lv_at hl 1 rfl) ?_
          refine lv_iconst (v := 1) hx hb dX5_tryPlacing_46 (by decide) ?_
          refine lv_aload_n hx hb dX5_tryPlacing_47 rfl (lv_at hl 1 rfl) ?_
          refine qget_X5_0 hC hR qk_226 dX5_tryPlacing_48 ?_
          refine qget_X0_2 hC hR (show 0 < 12 by decide) qk_114 dX5_tryPlacing_51 ?_
          obtain ⟨r21, w22, hq20, hf⟩ := qbd2_s hf
          refine q_callVi hC hR (mX5_refuse (qJ hC) hq20) (by decide) (qsh_228 G ad _) rfl qk_308 qk_310 qk_4 qk_19 qk_311 qhd_X5_refuse ⟨Nat.le_of_ble_eq_true rfl, Nat.le_of_ble_eq_true rfl⟩ hl.1 rfl (Nat.le_of_ble_eq_true rfl) dX5_tryPlacing_54 ⟨Nat.zero_le _, Nat.zero_le _⟩ (fun H locs hR => ?_)
          exact q_iret hC hR hr rfl (qso2 hf).1 (qso2 hf).2 dX5_tryPlacing_57
      · have hf := qif_f hf c_6
        refine lv_iconst (v := 2) hx hb dX5_tryPlacing_31 (by decide) ?_
        exact q_iret hC hR hr rfl (qso2 hf).1 (qso2 hf).2 dX5_tryPlacing_32
def fX5_tryPlacing (w : qMem)  (a1 : Int32) (a2 : Int32) (a3 : Int32) : Option (Int32 × qMem) :=
  if a1 = 3 then
    fX5_tryPlacing_L10 w a1 a2 a3 0
  else
    fX5_tryPlacing_L10 w a1 a2 a3 1
theorem qhd_X5_tryPlacing : yX5_tryPlacing.cls ≠ "java/lang/invoke/MethodHandle" ∧ yX5_tryPlacing.cls ≠ "java/lang/invoke/VarHandle" ∧ (parseMethodDescriptor yX5_tryPlacing.desc).map (fun d => d.parameters.length) = some 3 := ⟨by decide +kernel, by decide +kernel, by decide +kernel⟩
set_option maxHeartbeats 4000000 in
set_option maxRecDepth 100000 in
theorem mX5_tryPlacing {l : Launch} {D : va_G} {G : Nat → ClassId} {ad : Nat → Nat} (hJ : qInj ad) {w : qMem}   {a1 : Int32} {a2 : Int32} {a3 : Int32} {rF : Int32} {wF : qMem} (hf : fX5_tryPlacing w a1 a2 a3 = some (rF, wF)) : qCMi l D G ad yX5_tryPlacing cX5_tryPlacing 5 (some .int) 3 0 0 [.ref (ad 228), .int a1, .int a2, .int a3] w rF wF := by
  refine q_start RX5 rfl (by decide +kernel) hJ (fun a b h => by simp only [qQI, qQV, qQR, qQD, qQF, h]) (Nat.le_of_ble_eq_true rfl) ?_
  intro p e s m args below meth c0 ls hC hr hR hl
  have hx := hC.1
  have hb := hC.2.1
  have hl : lv_has ls 5 [(0, .ref (ad 228)), (1, .int a1), (2, .int a2), (3, .int a3)] := hl
  unfold fX5_tryPlacing at hf
  refine lv_iload_n hx hb dX5_tryPlacing_0 rfl (lv_at hl 1 rfl) ?_
  refine lv_iconst (v := 3) hx hb dX5_tryPlacing_1 (by decide) ?_
  refine lv_icmp_ne (tgt := 9) hx hb dX5_tryPlacing_2 (by decide) (fun c_1 => ?_) (fun c_1 => ?_)
  · have hf := qif_f hf c_1
    refine lv_iconst (v := 1) hx hb dX5_tryPlacing_9 (by decide) ?_
    exact mX5_tryPlacing_L10 hC hr _ _ _ _ _ _ _ _ hf hR (lv_sub hl [0, 1, 2, 3] rfl)
  · have hf := qif_t hf c_1
    refine lv_iconst (v := 0) hx hb dX5_tryPlacing_5 (by decide) ?_
    refine lv_goto (tgt := 10) hx hb dX5_tryPlacing_6 (by decide) ?_
    exact mX5_tryPlacing_L10 hC hr _ _ _ _ _ _ _ _ hf hR (lv_sub hl [0, 1, 2, 3] rfl)
-- X5.tryTaking
def fX5_tryTaking (w : qMem)  (a1 : Int32) : Option (Int32 × qMem) :=
  if a1 < 0 then
    some (1, w)
  else
    if a1 < w 0 2 then
      qbd2 (fX0_removeProp w 0 a1) fun (r4 : Int32) (w5 : qMem) =>
      qbd2 (fX5_answered w5 r4) fun (r7 : Int32) (w8 : qMem) =>
      some (r7, w8)
    else
      some (1, w)
theorem qhd_X5_tryTaking : yX5_tryTaking.cls ≠ "java/lang/invoke/MethodHandle" ∧ yX5_tryTaking.cls ≠ "java/lang/invoke/VarHandle" ∧ (parseMethodDescriptor yX5_tryTaking.desc).map (fun d => d.parameters.length) = some 1 := ⟨by decide +kernel, by decide +kernel, by decide +kernel⟩
set_option maxHeartbeats 4000000 in
set_option maxRecDepth 100000 in
theorem mX5_tryTaking {l : Launch} {D : va_G} {G : Nat → ClassId} {ad : Nat → Nat} (hJ : qInj ad) {w : qMem}   {a1 : Int32} {rF : Int32} {wF : qMem} (hf : fX5_tryTaking w a1 = some (rF, wF)) : qCMi l D G ad yX5_tryTaking cX5_tryTaking 2 (some .int) 3 0 0 [.ref (ad 228), .int a1] w rF wF := by
  refine q_start RX5 rfl (by decide +kernel) hJ (fun a b h => by simp only [qQI, qQV, qQR, qQD, qQF, h]) (Nat.le_of_ble_eq_true rfl) ?_
  intro p e s m args below meth c0 ls hC hr hR hl
  have hx := hC.1
  have hb := hC.2.1
  have hl : lv_has ls 2 [(0, .ref (ad 228)), (1, .int a1)] := hl
  unfold fX5_tryTaking at hf
  refine lv_iload_n hx hb dX5_tryTaking_0 rfl (lv_at hl 1 rfl) ?_
  refine lv_if_lt (tgt := 15) hx hb dX5_tryTaking_1 (by decide) (fun c_1 => ?_) (fun c_1 => ?_)
  · have hf := qif_t hf c_1
    refine lv_iconst (v := 1) hx hb dX5_tryTaking_15 (by decide) ?_
    exact q_iret hC hR hr rfl (qso2 hf).1 (qso2 hf).2 dX5_tryTaking_16
  · have hf := qif_f hf c_1
    refine lv_iload_n hx hb dX5_tryTaking_4 rfl (lv_at hl 1 rfl) ?_
    refine lv_aload_n hx hb dX5_tryTaking_5 rfl (lv_at hl 0 rfl) ?_
    refine qget_X5_0 hC hR qk_226 dX5_tryTaking_6 ?_
    refine qget_X0_2 hC hR (show 0 < 12 by decide) qk_114 dX5_tryTaking_9 ?_
    refine lv_icmp_lt (tgt := 17) hx hb dX5_tryTaking_12 (by decide) (fun c_2 => ?_) (fun c_2 => ?_)
    · have hf := qif_t hf c_2
      refine lv_aload_n hx hb dX5_tryTaking_17 rfl (lv_at hl 0 rfl) ?_
      refine lv_aload_n hx hb dX5_tryTaking_18 rfl (lv_at hl 0 rfl) ?_
      refine qget_X5_0 hC hR qk_226 dX5_tryTaking_19 ?_
      refine lv_iload_n hx hb dX5_tryTaking_22 rfl (lv_at hl 1 rfl) ?_
      obtain ⟨r4, w5, hq3, hf⟩ := qbd2_s hf
      refine q_callVi hC hR (mX0_removeProp (qJ hC) (show 0 < 12 by decide) hq3) (by have := (show 0 < 12 by decide); omega) (qsh_hall G ad _ (show 0 < 12 by decide)) rfl qk_332 qk_333 qk_334 qk_20 qk_335 qhd_X0_removeProp ⟨Nat.le_of_ble_eq_true rfl, Nat.le_of_ble_eq_true rfl⟩ hl.1 rfl (Nat.le_of_ble_eq_true rfl) dX5_tryTaking_23 ⟨Nat.zero_le _, Nat.zero_le _⟩ (fun H locs hR => ?_)
      obtain ⟨r7, w8, hq6, hf⟩ := qbd2_s hf
      refine q_callVi hC hR (mX5_answered (qJ hC) hq6) (by decide) (qsh_228 G ad _) rfl qk_324 qk_326 qk_5 qk_19 qk_327 qhd_X5_answered ⟨Nat.le_of_ble_eq_true rfl, Nat.le_of_ble_eq_true rfl⟩ hl.1 rfl (Nat.le_of_ble_eq_true rfl) dX5_tryTaking_26 ⟨Nat.zero_le _, Nat.zero_le _⟩ (fun H locs hR => ?_)
      exact q_iret hC hR hr rfl (qso2 hf).1 (qso2 hf).2 dX5_tryTaking_29
    · have hf := qif_f hf c_2
      refine lv_iconst (v := 1) hx hb dX5_tryTaking_15 (by decide) ?_
      exact q_iret hC hR hr rfl (qso2 hf).1 (qso2 hf).2 dX5_tryTaking_16
-- X5.tryCueing
def fX5_tryCueing_L30   (w : qMem) (x1 : Int32) (x2 : Int32) : Option (Int32 × qMem) :=
  qbd (fX0_propAt w 0 x1) fun (r5 : Nat) =>
  if qisPb r5 = true then
  if w r5 0 = 2 then
    if w r5 4 = 0 then
      if w r5 5 = x2 then
        qbd2 (fX5_refuse w 3 x2) fun (r16 : Int32) (w17 : qMem) =>
        some (r16, w17)
      else
        qnm (w r5 5) fun (x10 : Int32) =>
        qnm (quw w r5 5 x2) fun (w11 : qMem) =>
        qbd2 (fX5_answered w11 x10) fun (r13 : Int32) (w14 : qMem) =>
        some (r13, w14)
    else
      qbd2 (fX5_refuse w 6 (w r5 3)) fun (r19 : Int32) (w20 : qMem) =>
      some (r19, w20)
  else
    qbd2 (fX5_refuse w 4 (w r5 1)) fun (r22 : Int32) (w23 : qMem) =>
    some (r22, w23)
  else none
set_option maxHeartbeats 4000000 in
set_option maxRecDepth 100000 in
theorem mX5_tryCueing_L30 {p : Program} {l : Launch} {e : Env} {s : State} {m : MethodId} {args : Array Value} {below : List Frame} {meth : Method} {c0 : Code} {D : va_G} {G : Nat → ClassId} {ad : Nat → Nat}   {rF : Int32} {wF : qMem}  (hC : qCx p c0 cX5_tryCueing 5 s m args meth RX5 D G ad) (hr : meth.sig.returnType = some .int)  : ∀ (w : qMem) (x1 : Int32) (x2 : Int32) (H : Heap) (locs : List Loc) (ls : Array Slot), fX5_tryCueing_L30 w x1 x2 = some (rF, wF) → qRp D G ad s w H locs → lv_has ls 5 [(0, .ref (ad 228)), (1, .int x1), (2, .int x2)] → W p l e (qrm 2 0 0) s m args below meth c0 H locs 0 0 (MQ below (qQI D G ad s wF rF) args s 0 0 (qAdr ad s.heap.size)) (F0 m 30 ls []) := by
  have hx := hC.1
  have hb := hC.2.1
  intro w x1 x2 H locs ls hf hR hl
  unfold fX5_tryCueing_L30 at hf
  refine lv_aload_n hx hb dX5_tryCueing_30 rfl (lv_at hl 0 rfl) ?_
  refine qget_X5_0 hC hR qk_226 dX5_tryCueing_31 ?_
  refine lv_iload_n hx hb dX5_tryCueing_34 rfl (lv_at hl 1 rfl) ?_
  obtain ⟨r5, hq4, hf⟩ := qbd_s hf
  obtain ⟨g6, hf⟩ := qgd hf
  refine q_callVr hC hR (mX0_propAt (qJ hC) (show 0 < 12 by decide) hq4) (by have := (show 0 < 12 by decide); omega) (qsh_hall G ad _ (show 0 < 12 by decide)) rfl qk_343 qk_290 qk_291 qk_20 qk_292 qhd_X0_propAt ⟨Nat.le_of_ble_eq_true rfl, Nat.le_of_ble_eq_true rfl⟩ hl.1 rfl (Nat.le_of_ble_eq_true rfl) dX5_tryCueing_35 ⟨Nat.zero_le _, Nat.zero_le _⟩ (fun H locs hR => ?_)
  refine lv_astore_n (lv' := [(3, .ref (ad (r5))), (0, .ref (ad 228)), (1, .int x1), (2, .int x2)]) hx hb dX5_tryCueing_38 rfl hl (by decide) rfl (fun ls hl => ?_)
  refine lv_aload_n hx hb dX5_tryCueing_39 rfl (lv_at hl 0 rfl) ?_
  refine qget_X3_0 hC hR (qisPb_ok g6) qk_74 dX5_tryCueing_40 ?_
  refine lv_iconst (v := 2) hx hb dX5_tryCueing_43 (by decide) ?_
  refine lv_icmp_eq (tgt := 57) hx hb dX5_tryCueing_44 (by decide) (fun c_7 => ?_) (fun c_7 => ?_)
  · have hf := qif_t hf c_7
    refine lv_aload_n hx hb dX5_tryCueing_57 rfl (lv_at hl 0 rfl) ?_
    refine qget_X3_4 hC hR (qisPb_ok g6) qk_90 dX5_tryCueing_58 ?_
    refine lv_if_eq (tgt := 75) hx hb dX5_tryCueing_61 (by decide) (fun c_8 => ?_) (fun c_8 => ?_)
    · have hf := qif_t hf c_8
      refine lv_aload_n hx hb dX5_tryCueing_75 rfl (lv_at hl 0 rfl) ?_
      refine qget_X3_5 hC hR (qisPb_ok g6) qk_93 dX5_tryCueing_76 ?_
      refine lv_iload_n hx hb dX5_tryCueing_79 rfl (lv_at hl 3 rfl) ?_
      refine lv_icmp_ne (tgt := 90) hx hb dX5_tryCueing_80 (by decide) (fun c_9 => ?_) (fun c_9 => ?_)
      · have hf := qif_f hf c_9
        refine lv_aload_n hx hb dX5_tryCueing_90 rfl (lv_at hl 0 rfl) ?_
        refine qget_X3_5 hC hR (qisPb_ok g6) qk_93 dX5_tryCueing_91 ?_
        refine lv_topi (fun x10 ex10 => ?_)
        have hf := qnm_t hf ex10
        refine lv_istore (lv' := [(4, .int x10), (3, .ref (ad (r5))), (0, .ref (ad 228)), (1, .int x1), (2, .int x2)]) hx hb dX5_tryCueing_94 hl (by decide) rfl (fun ls hl => ?_)
        refine lv_aload_n hx hb dX5_tryCueing_96 rfl (lv_at hl 1 rfl) ?_
        refine lv_iload_n hx hb dX5_tryCueing_97 rfl (lv_at hl 4 rfl) ?_
        refine qput_X3_5 hC hR (qisPb_ok g6) qk_93 ⟨rfl, rfl⟩ dX5_tryCueing_98 (fun w11 H locs ew11 hR => ?_)
        have hf := qnm_t hf ew11
        refine lv_aload_n hx hb dX5_tryCueing_101 rfl (lv_at hl 2 rfl) ?_
        refine lv_iload hx hb dX5_tryCueing_102 (lv_at hl 0 rfl) ?_
        obtain ⟨r13, w14, hq12, hf⟩ := qbd2_s hf
        refine q_callVi hC hR (mX5_answered (qJ hC) hq12) (by decide) (qsh_228 G ad _) rfl qk_324 qk_326 qk_5 qk_19 qk_327 qhd_X5_answered ⟨Nat.le_of_ble_eq_true rfl, Nat.le_of_ble_eq_true rfl⟩ hl.1 rfl (Nat.le_of_ble_eq_true rfl) dX5_tryCueing_104 ⟨Nat.zero_le _, Nat.zero_le _⟩ (fun H locs hR => ?_)
        exact q_iret hC hR hr rfl (qso2 hf).1 (qso2 hf).2 dX5_tryCueing_107
      · have hf := qif_t hf c_9
        refine lv_aload_n hx hb dX5_tryCueing_83 rfl (lv_at hl 1 rfl) ?_
        refine lv_iconst (v := 3) hx hb dX5_tryCueing_84 (by decide) ?_
        refine lv_iload_n hx hb dX5_tryCueing_85 rfl (lv_at hl 3 rfl) ?_
        obtain ⟨r16, w17, hq15, hf⟩ := qbd2_s hf
        refine q_callVi hC hR (mX5_refuse (qJ hC) hq15) (by decide) (qsh_228 G ad _) rfl qk_308 qk_310 qk_4 qk_19 qk_311 qhd_X5_refuse ⟨Nat.le_of_ble_eq_true rfl, Nat.le_of_ble_eq_true rfl⟩ hl.1 rfl (Nat.le_of_ble_eq_true rfl) dX5_tryCueing_86 ⟨Nat.zero_le _, Nat.zero_le _⟩ (fun H locs hR => ?_)
        exact q_iret hC hR hr rfl (qso2 hf).1 (qso2 hf).2 dX5_tryCueing_89
    · have hf := qif_f hf c_8
      refine lv_aload_n hx hb dX5_tryCueing_64 rfl (lv_at hl 1 rfl) ?_
      refine lv_bipush (v := 6) hx hb dX5_tryCueing_65 (by decide) ?_
      refine lv_aload_n hx hb dX5_tryCueing_67 rfl (lv_at hl 0 rfl) ?_
      refine qget_X3_3 hC hR (qisPb_ok g6) qk_85 dX5_tryCueing_68 ?_
      obtain ⟨r19, w20, hq18, hf⟩ := qbd2_s hf
      refine q_callVi hC hR (mX5_refuse (qJ hC) hq18) (by decide) (qsh_228 G ad _) rfl qk_308 qk_310 qk_4 qk_19 qk_311 qhd_X5_refuse ⟨Nat.le_of_ble_eq_true rfl, Nat.le_of_ble_eq_true rfl⟩ hl.1 rfl (Nat.le_of_ble_eq_true rfl) dX5_tryCueing_71 ⟨Nat.zero_le _, Nat.zero_le _⟩ (fun H locs hR => ?_)
      exact q_iret hC hR hr rfl (qso2 hf).1 (qso2 hf).2 dX5_tryCueing_74
  · have hf := qif_f hf c_7
    refine lv_aload_n hx hb dX5_tryCueing_47 rfl (lv_at hl 1 rfl) ?_
    refine lv_iconst (v := 4) hx hb dX5_tryCueing_48 (by decide) ?_
    refine lv_aload_n hx hb dX5_tryCueing_49 rfl (lv_at hl 0 rfl) ?_
    refine qget_X3_1 hC hR (qisPb_ok g6) qk_78 dX5_tryCueing_50 ?_
    obtain ⟨r22, w23, hq21, hf⟩ := qbd2_s hf
    refine q_callVi hC hR (mX5_refuse (qJ hC) hq21) (by decide) (qsh_228 G ad _) rfl qk_308 qk_310 qk_4 qk_19 qk_311 qhd_X5_refuse ⟨Nat.le_of_ble_eq_true rfl, Nat.le_of_ble_eq_true rfl⟩ hl.1 rfl (Nat.le_of_ble_eq_true rfl) dX5_tryCueing_53 ⟨Nat.zero_le _, Nat.zero_le _⟩ (fun H locs hR => ?_)
    exact q_iret hC hR hr rfl (qso2 hf).1 (qso2 hf).2 dX5_tryCueing_56
def fX5_tryCueing (w : qMem)  (a1 : Int32) (a2 : Int32) : Option (Int32 × qMem) :=
  if a1 < 0 then
    some (1, w)
  else
    if a1 < w 0 2 then
      if a2 = 0 then
        fX5_tryCueing_L30 w a1 a2
      else
        qbd (fX5_isStrength w a2) fun (r25 : Int32) =>
        if r25 = 0 then
          some (2, w)
        else
          fX5_tryCueing_L30 w a1 a2
    else
      some (1, w)
theorem qhd_X5_tryCueing : yX5_tryCueing.cls ≠ "java/lang/invoke/MethodHandle" ∧ yX5_tryCueing.cls ≠ "java/lang/invoke/VarHandle" ∧ (parseMethodDescriptor yX5_tryCueing.desc).map (fun d => d.parameters.length) = some 2 := ⟨by decide +kernel, by decide +kernel, by decide +kernel⟩
set_option maxHeartbeats 4000000 in
set_option maxRecDepth 100000 in
theorem mX5_tryCueing {l : Launch} {D : va_G} {G : Nat → ClassId} {ad : Nat → Nat} (hJ : qInj ad) {w : qMem}   {a1 : Int32} {a2 : Int32} {rF : Int32} {wF : qMem} (hf : fX5_tryCueing w a1 a2 = some (rF, wF)) : qCMi l D G ad yX5_tryCueing cX5_tryCueing 5 (some .int) 2 0 0 [.ref (ad 228), .int a1, .int a2] w rF wF := by
  refine q_start RX5 rfl (by decide +kernel) hJ (fun a b h => by simp only [qQI, qQV, qQR, qQD, qQF, h]) (Nat.le_of_ble_eq_true rfl) ?_
  intro p e s m args below meth c0 ls hC hr hR hl
  have hx := hC.1
  have hb := hC.2.1
  have hl : lv_has ls 5 [(0, .ref (ad 228)), (1, .int a1), (2, .int a2)] := hl
  unfold fX5_tryCueing at hf
  refine lv_iload_n hx hb dX5_tryCueing_0 rfl (lv_at hl 1 rfl) ?_
  refine lv_if_lt (tgt := 15) hx hb dX5_tryCueing_1 (by decide) (fun c_1 => ?_) (fun c_1 => ?_)
  · have hf := qif_t hf c_1
    refine lv_iconst (v := 1) hx hb dX5_tryCueing_15 (by decide) ?_
    exact q_iret hC hR hr rfl (qso2 hf).1 (qso2 hf).2 dX5_tryCueing_16
  · have hf := qif_f hf c_1
    refine lv_iload_n hx hb dX5_tryCueing_4 rfl (lv_at hl 1 rfl) ?_
    refine lv_aload_n hx hb dX5_tryCueing_5 rfl (lv_at hl 0 rfl) ?_
    refine qget_X5_0 hC hR qk_226 dX5_tryCueing_6 ?_
    refine qget_X0_2 hC hR (show 0 < 12 by decide) qk_114 dX5_tryCueing_9 ?_
    refine lv_icmp_lt (tgt := 17) hx hb dX5_tryCueing_12 (by decide) (fun c_2 => ?_) (fun c_2 => ?_)
    · have hf := qif_t hf c_2
      refine lv_iload_n hx hb dX5_tryCueing_17 rfl (lv_at hl 2 rfl) ?_
      refine lv_if_eq (tgt := 30) hx hb dX5_tryCueing_18 (by decide) (fun c_3 => ?_) (fun c_3 => ?_)
      · have hf := qif_t hf c_3
        exact mX5_tryCueing_L30 hC hr _ _ _ _ _ _ hf hR (lv_sub hl [0, 1, 2] rfl)
      · have hf := qif_f hf c_3
        refine lv_iload_n hx hb dX5_tryCueing_21 rfl (lv_at hl 2 rfl) ?_
        obtain ⟨r25, hq24, hf⟩ := qbd_s hf
        refine q_callSi hC hR (mX5_isStrength (qJ hC) hq24) qk_340 qk_341 qk_19 qk_342 qhd_X5_isStrength ⟨Nat.le_of_ble_eq_true rfl, Nat.le_of_ble_eq_true rfl⟩ hl.1 rfl (Nat.le_of_ble_eq_true rfl) dX5_tryCueing_22 ⟨Nat.zero_le _, Nat.zero_le _⟩ (fun H locs hR => ?_)
        refine lv_if_ne (tgt := 30) hx hb dX5_tryCueing_25 (by decide) (fun c_26 => ?_) (fun c_26 => ?_)
        · have hf := qif_f hf c_26
          exact mX5_tryCueing_L30 hC hr _ _ _ _ _ _ hf hR (lv_sub hl [0, 1, 2] rfl)
        · have hf := qif_t hf c_26
          refine lv_iconst (v := 2) hx hb dX5_tryCueing_28 (by decide) ?_
          exact q_iret hC hR hr rfl (qso2 hf).1 (qso2 hf).2 dX5_tryCueing_29
    · have hf := qif_f hf c_2
      refine lv_iconst (v := 1) hx hb dX5_tryCueing_15 (by decide) ?_
      exact q_iret hC hR hr rfl (qso2 hf).1 (qso2 hf).2 dX5_tryCueing_16
-- X5.trySetting
def fX5_trySetting (w : qMem)  (a1 : Int32) : Option (Int32 × qMem) :=
  qbd (fX5_isStrength w a1) fun (r2 : Int32) =>
  if r2 = 0 then
    some (2, w)
  else
    if w 0 5 = a1 then
      qbd2 (fX5_refuse w 3 a1) fun (r11 : Int32) (w12 : qMem) =>
      some (r11, w12)
    else
      qnm (w 0 5) fun (x5 : Int32) =>
      qnm (quw w 0 5 a1) fun (w6 : qMem) =>
      qbd2 (fX5_answered w6 x5) fun (r8 : Int32) (w9 : qMem) =>
      some (r8, w9)
theorem qhd_X5_trySetting : yX5_trySetting.cls ≠ "java/lang/invoke/MethodHandle" ∧ yX5_trySetting.cls ≠ "java/lang/invoke/VarHandle" ∧ (parseMethodDescriptor yX5_trySetting.desc).map (fun d => d.parameters.length) = some 1 := ⟨by decide +kernel, by decide +kernel, by decide +kernel⟩
set_option maxHeartbeats 4000000 in
set_option maxRecDepth 100000 in
theorem mX5_trySetting {l : Launch} {D : va_G} {G : Nat → ClassId} {ad : Nat → Nat} (hJ : qInj ad) {w : qMem}   {a1 : Int32} {rF : Int32} {wF : qMem} (hf : fX5_trySetting w a1 = some (rF, wF)) : qCMi l D G ad yX5_trySetting cX5_trySetting 3 (some .int) 2 0 0 [.ref (ad 228), .int a1] w rF wF := by
  refine q_start RX5 rfl (by decide +kernel) hJ (fun a b h => by simp only [qQI, qQV, qQR, qQD, qQF, h]) (Nat.le_of_ble_eq_true rfl) ?_
  intro p e s m args below meth c0 ls hC hr hR hl
  have hx := hC.1
  have hb := hC.2.1
  have hl : lv_has ls 3 [(0, .ref (ad 228)), (1, .int a1)] := hl
  unfold fX5_trySetting at hf
  refine lv_iload_n hx hb dX5_trySetting_0 rfl (lv_at hl 1 rfl) ?_
  obtain ⟨r2, hq1, hf⟩ := qbd_s hf
  refine q_callSi hC hR (mX5_isStrength (qJ hC) hq1) qk_340 qk_341 qk_19 qk_342 qhd_X5_isStrength ⟨Nat.le_of_ble_eq_true rfl, Nat.le_of_ble_eq_true rfl⟩ hl.1 rfl (Nat.le_of_ble_eq_true rfl) dX5_trySetting_1 ⟨Nat.zero_le _, Nat.zero_le _⟩ (fun H locs hR => ?_)
  refine lv_if_ne (tgt := 9) hx hb dX5_trySetting_4 (by decide) (fun c_3 => ?_) (fun c_3 => ?_)
  · have hf := qif_f hf c_3
    refine lv_aload_n hx hb dX5_trySetting_9 rfl (lv_at hl 0 rfl) ?_
    refine qget_X5_0 hC hR qk_226 dX5_trySetting_10 ?_
    refine qget_X0_5 hC hR (show 0 < 12 by decide) qk_120 dX5_trySetting_13 ?_
    refine lv_iload_n hx hb dX5_trySetting_16 rfl (lv_at hl 1 rfl) ?_
    refine lv_icmp_ne (tgt := 27) hx hb dX5_trySetting_17 (by decide) (fun c_4 => ?_) (fun c_4 => ?_)
    · have hf := qif_f hf c_4
      refine lv_aload_n hx hb dX5_trySetting_27 rfl (lv_at hl 0 rfl) ?_
      refine qget_X5_0 hC hR qk_226 dX5_trySetting_28 ?_
      refine qget_X0_5 hC hR (show 0 < 12 by decide) qk_120 dX5_trySetting_31 ?_
      refine lv_topi (fun x5 ex5 => ?_)
      have hf := qnm_t hf ex5
      refine lv_istore_n (lv' := [(2, .int x5), (0, .ref (ad 228)), (1, .int a1)]) hx hb dX5_trySetting_34 rfl hl (by decide) rfl (fun ls hl => ?_)
      refine lv_aload_n hx hb dX5_trySetting_35 rfl (lv_at hl 1 rfl) ?_
      refine qget_X5_0 hC hR qk_226 dX5_trySetting_36 ?_
      refine lv_iload_n hx hb dX5_trySetting_39 rfl (lv_at hl 2 rfl) ?_
      refine qput_X0_5 hC hR (show 0 < 12 by decide) qk_120 ⟨rfl, rfl⟩ dX5_trySetting_40 (fun w6 H locs ew6 hR => ?_)
      have hf := qnm_t hf ew6
      refine lv_aload_n hx hb dX5_trySetting_43 rfl (lv_at hl 1 rfl) ?_
      refine lv_iload_n hx hb dX5_trySetting_44 rfl (lv_at hl 0 rfl) ?_
      obtain ⟨r8, w9, hq7, hf⟩ := qbd2_s hf
      refine q_callVi hC hR (mX5_answered (qJ hC) hq7) (by decide) (qsh_228 G ad _) rfl qk_324 qk_326 qk_5 qk_19 qk_327 qhd_X5_answered ⟨Nat.le_of_ble_eq_true rfl, Nat.le_of_ble_eq_true rfl⟩ hl.1 rfl (Nat.le_of_ble_eq_true rfl) dX5_trySetting_45 ⟨Nat.zero_le _, Nat.zero_le _⟩ (fun H locs hR => ?_)
      exact q_iret hC hR hr rfl (qso2 hf).1 (qso2 hf).2 dX5_trySetting_48
    · have hf := qif_t hf c_4
      refine lv_aload_n hx hb dX5_trySetting_20 rfl (lv_at hl 0 rfl) ?_
      refine lv_iconst (v := 3) hx hb dX5_trySetting_21 (by decide) ?_
      refine lv_iload_n hx hb dX5_trySetting_22 rfl (lv_at hl 1 rfl) ?_
      obtain ⟨r11, w12, hq10, hf⟩ := qbd2_s hf
      refine q_callVi hC hR (mX5_refuse (qJ hC) hq10) (by decide) (qsh_228 G ad _) rfl qk_308 qk_310 qk_4 qk_19 qk_311 qhd_X5_refuse ⟨Nat.le_of_ble_eq_true rfl, Nat.le_of_ble_eq_true rfl⟩ hl.1 rfl (Nat.le_of_ble_eq_true rfl) dX5_trySetting_23 ⟨Nat.zero_le _, Nat.zero_le _⟩ (fun H locs hR => ?_)
      exact q_iret hC hR hr rfl (qso2 hf).1 (qso2 hf).2 dX5_trySetting_26
  · have hf := qif_t hf c_3
    refine lv_iconst (v := 2) hx hb dX5_trySetting_7 (by decide) ?_
    exact q_iret hC hR hr rfl (qso2 hf).1 (qso2 hf).2 dX5_trySetting_8
-- X5.tryAdding
def fX5_tryAdding (w : qMem)  (a1 : Int32) : Option (Int32 × qMem) :=
  qbd (fX5_isStrength w a1) fun (r2 : Int32) =>
  if r2 = 0 then
    some (2, w)
  else
    if w 0 4 < 8 then
      qbd2 (fX0_plan w 0 a1) fun (r6 : Int32) (w7 : qMem) =>
      qbd2 (fX5_answered w7 r6) fun (r9 : Int32) (w10 : qMem) =>
      some (r9, w10)
    else
      qbd2 (fX5_refuse w 1 (w 0 4)) fun (r12 : Int32) (w13 : qMem) =>
      some (r12, w13)
theorem qhd_X5_tryAdding : yX5_tryAdding.cls ≠ "java/lang/invoke/MethodHandle" ∧ yX5_tryAdding.cls ≠ "java/lang/invoke/VarHandle" ∧ (parseMethodDescriptor yX5_tryAdding.desc).map (fun d => d.parameters.length) = some 1 := ⟨by decide +kernel, by decide +kernel, by decide +kernel⟩
set_option maxHeartbeats 4000000 in
set_option maxRecDepth 100000 in
theorem mX5_tryAdding {l : Launch} {D : va_G} {G : Nat → ClassId} {ad : Nat → Nat} (hJ : qInj ad) {w : qMem}   {a1 : Int32} {rF : Int32} {wF : qMem} (hf : fX5_tryAdding w a1 = some (rF, wF)) : qCMi l D G ad yX5_tryAdding cX5_tryAdding 2 (some .int) 2 0 0 [.ref (ad 228), .int a1] w rF wF := by
  refine q_start RX5 rfl (by decide +kernel) hJ (fun a b h => by simp only [qQI, qQV, qQR, qQD, qQF, h]) (Nat.le_of_ble_eq_true rfl) ?_
  intro p e s m args below meth c0 ls hC hr hR hl
  have hx := hC.1
  have hb := hC.2.1
  have hl : lv_has ls 2 [(0, .ref (ad 228)), (1, .int a1)] := hl
  unfold fX5_tryAdding at hf
  refine lv_iload_n hx hb dX5_tryAdding_0 rfl (lv_at hl 1 rfl) ?_
  obtain ⟨r2, hq1, hf⟩ := qbd_s hf
  refine q_callSi hC hR (mX5_isStrength (qJ hC) hq1) qk_340 qk_341 qk_19 qk_342 qhd_X5_isStrength ⟨Nat.le_of_ble_eq_true rfl, Nat.le_of_ble_eq_true rfl⟩ hl.1 rfl (Nat.le_of_ble_eq_true rfl) dX5_tryAdding_1 ⟨Nat.zero_le _, Nat.zero_le _⟩ (fun H locs hR => ?_)
  refine lv_if_ne (tgt := 9) hx hb dX5_tryAdding_4 (by decide) (fun c_3 => ?_) (fun c_3 => ?_)
  · have hf := qif_f hf c_3
    refine lv_aload_n hx hb dX5_tryAdding_9 rfl (lv_at hl 0 rfl) ?_
    refine qget_X5_0 hC hR qk_226 dX5_tryAdding_10 ?_
    refine qget_X0_4 hC hR (show 0 < 12 by decide) qk_118 dX5_tryAdding_13 ?_
    refine lv_bipush (v := 8) hx hb dX5_tryAdding_16 (by decide) ?_
    refine lv_icmp_lt (tgt := 34) hx hb dX5_tryAdding_18 (by decide) (fun c_4 => ?_) (fun c_4 => ?_)
    · have hf := qif_t hf c_4
      refine lv_aload_n hx hb dX5_tryAdding_34 rfl (lv_at hl 0 rfl) ?_
      refine lv_aload_n hx hb dX5_tryAdding_35 rfl (lv_at hl 0 rfl) ?_
      refine qget_X5_0 hC hR qk_226 dX5_tryAdding_36 ?_
      refine lv_iload_n hx hb dX5_tryAdding_39 rfl (lv_at hl 1 rfl) ?_
      obtain ⟨r6, w7, hq5, hf⟩ := qbd2_s hf
      refine q_callVi hC hR (mX0_plan (qJ hC) (show 0 < 12 by decide) hq5) (by have := (show 0 < 12 by decide); omega) (qsh_hall G ad _ (show 0 < 12 by decide)) rfl qk_408 qk_409 qk_410 qk_20 qk_411 qhd_X0_plan ⟨Nat.le_of_ble_eq_true rfl, Nat.le_of_ble_eq_true rfl⟩ hl.1 rfl (Nat.le_of_ble_eq_true rfl) dX5_tryAdding_40 ⟨Nat.zero_le _, Nat.zero_le _⟩ (fun H locs hR => ?_)
      obtain ⟨r9, w10, hq8, hf⟩ := qbd2_s hf
      refine q_callVi hC hR (mX5_answered (qJ hC) hq8) (by decide) (qsh_228 G ad _) rfl qk_324 qk_326 qk_5 qk_19 qk_327 qhd_X5_answered ⟨Nat.le_of_ble_eq_true rfl, Nat.le_of_ble_eq_true rfl⟩ hl.1 rfl (Nat.le_of_ble_eq_true rfl) dX5_tryAdding_43 ⟨Nat.zero_le _, Nat.zero_le _⟩ (fun H locs hR => ?_)
      exact q_iret hC hR hr rfl (qso2 hf).1 (qso2 hf).2 dX5_tryAdding_46
    · have hf := qif_f hf c_4
      refine lv_aload_n hx hb dX5_tryAdding_21 rfl (lv_at hl 0 rfl) ?_
      refine lv_iconst (v := 1) hx hb dX5_tryAdding_22 (by decide) ?_
      refine lv_aload_n hx hb dX5_tryAdding_23 rfl (lv_at hl 0 rfl) ?_
      refine qget_X5_0 hC hR qk_226 dX5_tryAdding_24 ?_
      refine qget_X0_4 hC hR (show 0 < 12 by decide) qk_118 dX5_tryAdding_27 ?_
      obtain ⟨r12, w13, hq11, hf⟩ := qbd2_s hf
      refine q_callVi hC hR (mX5_refuse (qJ hC) hq11) (by decide) (qsh_228 G ad _) rfl qk_308 qk_310 qk_4 qk_19 qk_311 qhd_X5_refuse ⟨Nat.le_of_ble_eq_true rfl, Nat.le_of_ble_eq_true rfl⟩ hl.1 rfl (Nat.le_of_ble_eq_true rfl) dX5_tryAdding_30 ⟨Nat.zero_le _, Nat.zero_le _⟩ (fun H locs hR => ?_)
      exact q_iret hC hR hr rfl (qso2 hf).1 (qso2 hf).2 dX5_tryAdding_33
  · have hf := qif_t hf c_3
    refine lv_iconst (v := 2) hx hb dX5_tryAdding_7 (by decide) ?_
    exact q_iret hC hR hr rfl (qso2 hf).1 (qso2 hf).2 dX5_tryAdding_8
-- X5.tryOrder
def fX5_tryOrder (w : qMem)  (a1 : Int32) (a2 : Int32) (a3 : Int32) : Option (Int32 × qMem) :=
  if a1 = 1 then
    qbd2 (fX5_tryPlacing w a1 a2 a3) fun (r3 : Int32) (w4 : qMem) =>
    some (r3, w4)
  else
  if a1 = 2 then
    qbd2 (fX5_tryPlacing w a1 a2 a3) fun (r7 : Int32) (w8 : qMem) =>
    some (r7, w8)
  else
  if a1 = 3 then
    qbd2 (fX5_tryPlacing w a1 a2 a3) fun (r11 : Int32) (w12 : qMem) =>
    some (r11, w12)
  else
  if a1 = 4 then
    qbd2 (fX5_tryTaking w a2) fun (r15 : Int32) (w16 : qMem) =>
    some (r15, w16)
  else
  if a1 = 5 then
    qbd2 (fX5_tryCueing w a2 a3) fun (r19 : Int32) (w20 : qMem) =>
    some (r19, w20)
  else
  if a1 = 6 then
    qbd2 (fX5_trySetting w a2) fun (r23 : Int32) (w24 : qMem) =>
    some (r23, w24)
  else
  if a1 = 7 then
    qbd2 (fX0_performShock w 0 (w 0 5)) fun (r27 : Int32) (w28 : qMem) =>
    qbd2 (fX5_answered w28 r27) fun (r30 : Int32) (w31 : qMem) =>
    some (r30, w31)
  else
  if a1 = 8 then
    qbd2 (fX5_tryAdding w a2) fun (r34 : Int32) (w35 : qMem) =>
    some (r34, w35)
  else
  if a1 = 9 then
    if w 0 4 = 0 then
      qbd2 (fX5_refuse w 5 (w 0 6)) fun (r45 : Int32) (w46 : qMem) =>
      some (r45, w46)
    else
      qbd2 (fX0_performProgramme w 0) fun (r39 : Int32) (w40 : qMem) =>
      qbd2 (fX5_answered w40 r39) fun (r42 : Int32) (w43 : qMem) =>
      some (r42, w43)
  else
  if a1 = 10 then
    qbd2 (fX0_calm w 0) fun (r49 : Int32) (w50 : qMem) =>
    qbd2 (fX5_answered w50 r49) fun (r52 : Int32) (w53 : qMem) =>
    some (r52, w53)
  else
  some (2, w)
theorem qhd_X5_tryOrder : yX5_tryOrder.cls ≠ "java/lang/invoke/MethodHandle" ∧ yX5_tryOrder.cls ≠ "java/lang/invoke/VarHandle" ∧ (parseMethodDescriptor yX5_tryOrder.desc).map (fun d => d.parameters.length) = some 3 := ⟨by decide +kernel, by decide +kernel, by decide +kernel⟩
set_option maxHeartbeats 4000000 in
set_option maxRecDepth 100000 in
theorem mX5_tryOrder {l : Launch} {D : va_G} {G : Nat → ClassId} {ad : Nat → Nat} (hJ : qInj ad) {w : qMem}   {a1 : Int32} {a2 : Int32} {a3 : Int32} {rF : Int32} {wF : qMem} (hf : fX5_tryOrder w a1 a2 a3 = some (rF, wF)) : qCMi l D G ad yX5_tryOrder cX5_tryOrder 4 (some .int) 6 0 0 [.ref (ad 228), .int a1, .int a2, .int a3] w rF wF := by
  refine q_start RX5 rfl (by decide +kernel) hJ (fun a b h => by simp only [qQI, qQV, qQR, qQD, qQF, h]) (Nat.le_of_ble_eq_true rfl) ?_
  intro p e s m args below meth c0 ls hC hr hR hl
  have hx := hC.1
  have hb := hC.2.1
  have hl : lv_has ls 4 [(0, .ref (ad 228)), (1, .int a1), (2, .int a2), (3, .int a3)] := hl
  unfold fX5_tryOrder at hf
  refine lv_iload_n hx hb dX5_tryOrder_0 rfl (lv_at hl 1 rfl) ?_
  by_cases c_1 : a1 = 1
  · have hf := qif_t hf c_1
    refine lv_tableIn (off := 55) (tgt := 56) hx hb dX5_tryOrder_1 (by rw [c_1]; decide) (by rw [c_1]; decide) (by rw [c_1]; decide) (by decide) ?_
    refine lv_aload_n hx hb dX5_tryOrder_56 rfl (lv_at hl 0 rfl) ?_
    refine lv_iload_n hx hb dX5_tryOrder_57 rfl (lv_at hl 1 rfl) ?_
    refine lv_iload_n hx hb dX5_tryOrder_58 rfl (lv_at hl 2 rfl) ?_
    refine lv_iload_n hx hb dX5_tryOrder_59 rfl (lv_at hl 3 rfl) ?_
    obtain ⟨r3, w4, hq2, hf⟩ := qbd2_s hf
    refine q_callVi hC hR (mX5_tryPlacing (qJ hC) hq2) (by decide) (qsh_228 G ad _) rfl qk_301 qk_303 qk_3 qk_19 qk_304 qhd_X5_tryPlacing ⟨Nat.le_of_ble_eq_true rfl, Nat.le_of_ble_eq_true rfl⟩ hl.1 rfl (Nat.le_of_ble_eq_true rfl) dX5_tryOrder_60 ⟨Nat.zero_le _, Nat.zero_le _⟩ (fun H locs hR => ?_)
    exact q_iret hC hR hr rfl (qso2 hf).1 (qso2 hf).2 dX5_tryOrder_63
  have hf := qif_f hf c_1
  by_cases c_5 : a1 = 2
  · have hf := qif_t hf c_5
    refine lv_tableIn (off := 55) (tgt := 56) hx hb dX5_tryOrder_1 (by rw [c_5]; decide) (by rw [c_5]; decide) (by rw [c_5]; decide) (by decide) ?_
    refine lv_aload_n hx hb dX5_tryOrder_56 rfl (lv_at hl 0 rfl) ?_
    refine lv_iload_n hx hb dX5_tryOrder_57 rfl (lv_at hl 1 rfl) ?_
    refine lv_iload_n hx hb dX5_tryOrder_58 rfl (lv_at hl 2 rfl) ?_
    refine lv_iload_n hx hb dX5_tryOrder_59 rfl (lv_at hl 3 rfl) ?_
    obtain ⟨r7, w8, hq6, hf⟩ := qbd2_s hf
    refine q_callVi hC hR (mX5_tryPlacing (qJ hC) hq6) (by decide) (qsh_228 G ad _) rfl qk_301 qk_303 qk_3 qk_19 qk_304 qhd_X5_tryPlacing ⟨Nat.le_of_ble_eq_true rfl, Nat.le_of_ble_eq_true rfl⟩ hl.1 rfl (Nat.le_of_ble_eq_true rfl) dX5_tryOrder_60 ⟨Nat.zero_le _, Nat.zero_le _⟩ (fun H locs hR => ?_)
    exact q_iret hC hR hr rfl (qso2 hf).1 (qso2 hf).2 dX5_tryOrder_63
  have hf := qif_f hf c_5
  by_cases c_9 : a1 = 3
  · have hf := qif_t hf c_9
    refine lv_tableIn (off := 55) (tgt := 56) hx hb dX5_tryOrder_1 (by rw [c_9]; decide) (by rw [c_9]; decide) (by rw [c_9]; decide) (by decide) ?_
    refine lv_aload_n hx hb dX5_tryOrder_56 rfl (lv_at hl 0 rfl) ?_
    refine lv_iload_n hx hb dX5_tryOrder_57 rfl (lv_at hl 1 rfl) ?_
    refine lv_iload_n hx hb dX5_tryOrder_58 rfl (lv_at hl 2 rfl) ?_
    refine lv_iload_n hx hb dX5_tryOrder_59 rfl (lv_at hl 3 rfl) ?_
    obtain ⟨r11, w12, hq10, hf⟩ := qbd2_s hf
    refine q_callVi hC hR (mX5_tryPlacing (qJ hC) hq10) (by decide) (qsh_228 G ad _) rfl qk_301 qk_303 qk_3 qk_19 qk_304 qhd_X5_tryPlacing ⟨Nat.le_of_ble_eq_true rfl, Nat.le_of_ble_eq_true rfl⟩ hl.1 rfl (Nat.le_of_ble_eq_true rfl) dX5_tryOrder_60 ⟨Nat.zero_le _, Nat.zero_le _⟩ (fun H locs hR => ?_)
    exact q_iret hC hR hr rfl (qso2 hf).1 (qso2 hf).2 dX5_tryOrder_63
  have hf := qif_f hf c_9
  by_cases c_13 : a1 = 4
  · have hf := qif_t hf c_13
    refine lv_tableIn (off := 63) (tgt := 64) hx hb dX5_tryOrder_1 (by rw [c_13]; decide) (by rw [c_13]; decide) (by rw [c_13]; decide) (by decide) ?_
    refine lv_aload_n hx hb dX5_tryOrder_64 rfl (lv_at hl 0 rfl) ?_
    refine lv_iload_n hx hb dX5_tryOrder_65 rfl (lv_at hl 2 rfl) ?_
    obtain ⟨r15, w16, hq14, hf⟩ := qbd2_s hf
    refine q_callVi hC hR (mX5_tryTaking (qJ hC) hq14) (by decide) (qsh_228 G ad _) rfl qk_328 qk_330 qk_6 qk_19 qk_331 qhd_X5_tryTaking ⟨Nat.le_of_ble_eq_true rfl, Nat.le_of_ble_eq_true rfl⟩ hl.1 rfl (Nat.le_of_ble_eq_true rfl) dX5_tryOrder_66 ⟨Nat.zero_le _, Nat.zero_le _⟩ (fun H locs hR => ?_)
    exact q_iret hC hR hr rfl (qso2 hf).1 (qso2 hf).2 dX5_tryOrder_69
  have hf := qif_f hf c_13
  by_cases c_17 : a1 = 5
  · have hf := qif_t hf c_17
    refine lv_tableIn (off := 69) (tgt := 70) hx hb dX5_tryOrder_1 (by rw [c_17]; decide) (by rw [c_17]; decide) (by rw [c_17]; decide) (by decide) ?_
    refine lv_aload_n hx hb dX5_tryOrder_70 rfl (lv_at hl 0 rfl) ?_
    refine lv_iload_n hx hb dX5_tryOrder_71 rfl (lv_at hl 2 rfl) ?_
    refine lv_iload_n hx hb dX5_tryOrder_72 rfl (lv_at hl 3 rfl) ?_
    obtain ⟨r19, w20, hq18, hf⟩ := qbd2_s hf
    refine q_callVi hC hR (mX5_tryCueing (qJ hC) hq18) (by decide) (qsh_228 G ad _) rfl qk_336 qk_338 qk_7 qk_19 qk_339 qhd_X5_tryCueing ⟨Nat.le_of_ble_eq_true rfl, Nat.le_of_ble_eq_true rfl⟩ hl.1 rfl (Nat.le_of_ble_eq_true rfl) dX5_tryOrder_73 ⟨Nat.zero_le _, Nat.zero_le _⟩ (fun H locs hR => ?_)
    exact q_iret hC hR hr rfl (qso2 hf).1 (qso2 hf).2 dX5_tryOrder_76
  have hf := qif_f hf c_17
  by_cases c_21 : a1 = 6
  · have hf := qif_t hf c_21
    refine lv_tableIn (off := 76) (tgt := 77) hx hb dX5_tryOrder_1 (by rw [c_21]; decide) (by rw [c_21]; decide) (by rw [c_21]; decide) (by decide) ?_
    refine lv_aload_n hx hb dX5_tryOrder_77 rfl (lv_at hl 0 rfl) ?_
    refine lv_iload_n hx hb dX5_tryOrder_78 rfl (lv_at hl 2 rfl) ?_
    obtain ⟨r23, w24, hq22, hf⟩ := qbd2_s hf
    refine q_callVi hC hR (mX5_trySetting (qJ hC) hq22) (by decide) (qsh_228 G ad _) rfl qk_344 qk_346 qk_8 qk_19 qk_347 qhd_X5_trySetting ⟨Nat.le_of_ble_eq_true rfl, Nat.le_of_ble_eq_true rfl⟩ hl.1 rfl (Nat.le_of_ble_eq_true rfl) dX5_tryOrder_79 ⟨Nat.zero_le _, Nat.zero_le _⟩ (fun H locs hR => ?_)
    exact q_iret hC hR hr rfl (qso2 hf).1 (qso2 hf).2 dX5_tryOrder_82
  have hf := qif_f hf c_21
  by_cases c_25 : a1 = 7
  · have hf := qif_t hf c_25
    refine lv_tableIn (off := 82) (tgt := 83) hx hb dX5_tryOrder_1 (by rw [c_25]; decide) (by rw [c_25]; decide) (by rw [c_25]; decide) (by decide) ?_
    refine lv_aload_n hx hb dX5_tryOrder_83 rfl (lv_at hl 0 rfl) ?_
    refine lv_aload_n hx hb dX5_tryOrder_84 rfl (lv_at hl 0 rfl) ?_
    refine qget_X5_0 hC hR qk_226 dX5_tryOrder_85 ?_
    refine lv_aload_n hx hb dX5_tryOrder_88 rfl (lv_at hl 0 rfl) ?_
    refine qget_X5_0 hC hR qk_226 dX5_tryOrder_89 ?_
    refine qget_X0_5 hC hR (show 0 < 12 by decide) qk_120 dX5_tryOrder_92 ?_
    obtain ⟨r27, w28, hq26, hf⟩ := qbd2_s hf
    refine q_callVi hC hR (mX0_performShock (qJ hC) (show 0 < 12 by decide) hq26) (by have := (show 0 < 12 by decide); omega) (qsh_hall G ad _ (show 0 < 12 by decide)) rfl qk_348 qk_349 qk_350 qk_20 qk_351 qhd_X0_performShock ⟨Nat.le_of_ble_eq_true rfl, Nat.le_of_ble_eq_true rfl⟩ hl.1 rfl (Nat.le_of_ble_eq_true rfl) dX5_tryOrder_95 ⟨Nat.zero_le _, Nat.zero_le _⟩ (fun H locs hR => ?_)
    obtain ⟨r30, w31, hq29, hf⟩ := qbd2_s hf
    refine q_callVi hC hR (mX5_answered (qJ hC) hq29) (by decide) (qsh_228 G ad _) rfl qk_324 qk_326 qk_5 qk_19 qk_327 qhd_X5_answered ⟨Nat.le_of_ble_eq_true rfl, Nat.le_of_ble_eq_true rfl⟩ hl.1 rfl (Nat.le_of_ble_eq_true rfl) dX5_tryOrder_98 ⟨Nat.zero_le _, Nat.zero_le _⟩ (fun H locs hR => ?_)
    exact q_iret hC hR hr rfl (qso2 hf).1 (qso2 hf).2 dX5_tryOrder_101
  have hf := qif_f hf c_25
  by_cases c_32 : a1 = 8
  · have hf := qif_t hf c_32
    refine lv_tableIn (off := 101) (tgt := 102) hx hb dX5_tryOrder_1 (by rw [c_32]; decide) (by rw [c_32]; decide) (by rw [c_32]; decide) (by decide) ?_
    refine lv_aload_n hx hb dX5_tryOrder_102 rfl (lv_at hl 0 rfl) ?_
    refine lv_iload_n hx hb dX5_tryOrder_103 rfl (lv_at hl 2 rfl) ?_
    obtain ⟨r34, w35, hq33, hf⟩ := qbd2_s hf
    refine q_callVi hC hR (mX5_tryAdding (qJ hC) hq33) (by decide) (qsh_228 G ad _) rfl qk_404 qk_406 qk_9 qk_19 qk_407 qhd_X5_tryAdding ⟨Nat.le_of_ble_eq_true rfl, Nat.le_of_ble_eq_true rfl⟩ hl.1 rfl (Nat.le_of_ble_eq_true rfl) dX5_tryOrder_104 ⟨Nat.zero_le _, Nat.zero_le _⟩ (fun H locs hR => ?_)
    exact q_iret hC hR hr rfl (qso2 hf).1 (qso2 hf).2 dX5_tryOrder_107
  have hf := qif_f hf c_32
  by_cases c_36 : a1 = 9
  · have hf := qif_t hf c_36
    refine lv_tableIn (off := 107) (tgt := 108) hx hb dX5_tryOrder_1 (by rw [c_36]; decide) (by rw [c_36]; decide) (by rw [c_36]; decide) (by decide) ?_
    refine lv_aload_n hx hb dX5_tryOrder_108 rfl (lv_at hl 0 rfl) ?_
    refine qget_X5_0 hC hR qk_226 dX5_tryOrder_109 ?_
    refine qget_X0_4 hC hR (show 0 < 12 by decide) qk_118 dX5_tryOrder_112 ?_
    refine lv_if_ne (tgt := 133) hx hb dX5_tryOrder_115 (by decide) (fun c_37 => ?_) (fun c_37 => ?_)
    · have hf := qif_f hf c_37
      refine lv_aload_n hx hb dX5_tryOrder_133 rfl (lv_at hl 0 rfl) ?_
      refine lv_aload_n hx hb dX5_tryOrder_134 rfl (lv_at hl 0 rfl) ?_
      refine qget_X5_0 hC hR qk_226 dX5_tryOrder_135 ?_
      obtain ⟨r39, w40, hq38, hf⟩ := qbd2_s hf
      refine q_callVi hC hR (mX0_performProgramme (qJ hC) (show 0 < 12 by decide) hq38) (by have := (show 0 < 12 by decide); omega) (qsh_hall G ad _ (show 0 < 12 by decide)) rfl qk_412 qk_413 qk_414 qk_20 qk_415 qhd_X0_performProgramme ⟨Nat.le_of_ble_eq_true rfl, Nat.le_of_ble_eq_true rfl⟩ hl.1 rfl (Nat.le_of_ble_eq_true rfl) dX5_tryOrder_138 ⟨Nat.zero_le _, Nat.zero_le _⟩ (fun H locs hR => ?_)
      obtain ⟨r42, w43, hq41, hf⟩ := qbd2_s hf
      refine q_callVi hC hR (mX5_answered (qJ hC) hq41) (by decide) (qsh_228 G ad _) rfl qk_324 qk_326 qk_5 qk_19 qk_327 qhd_X5_answered ⟨Nat.le_of_ble_eq_true rfl, Nat.le_of_ble_eq_true rfl⟩ hl.1 rfl (Nat.le_of_ble_eq_true rfl) dX5_tryOrder_141 ⟨Nat.zero_le _, Nat.zero_le _⟩ (fun H locs hR => ?_)
      exact q_iret hC hR hr rfl (qso2 hf).1 (qso2 hf).2 dX5_tryOrder_144
    · have hf := qif_t hf c_37
      refine lv_aload_n hx hb dX5_tryOrder_118 rfl (lv_at hl 0 rfl) ?_
      refine lv_iconst (v := 5) hx hb dX5_tryOrder_119 (by decide) ?_
      refine lv_aload_n hx hb dX5_tryOrder_120 rfl (lv_at hl 0 rfl) ?_
      refine qget_X5_0 hC hR qk_226 dX5_tryOrder_121 ?_
      refine qget_X0_6 hC hR (show 0 < 12 by decide) qk_122 dX5_tryOrder_124 ?_
      obtain ⟨r45, w46, hq44, hf⟩ := qbd2_s hf
      refine q_callVi hC hR (mX5_refuse (qJ hC) hq44) (by decide) (qsh_228 G ad _) rfl qk_308 qk_310 qk_4 qk_19 qk_311 qhd_X5_refuse ⟨Nat.le_of_ble_eq_true rfl, Nat.le_of_ble_eq_true rfl⟩ hl.1 rfl (Nat.le_of_ble_eq_true rfl) dX5_tryOrder_127 ⟨Nat.zero_le _, Nat.zero_le _⟩ (fun H locs hR => ?_)
      refine lv_goto (tgt := 144) hx hb dX5_tryOrder_130 (by decide) ?_
      exact q_iret hC hR hr rfl (qso2 hf).1 (qso2 hf).2 dX5_tryOrder_144
  have hf := qif_f hf c_36
  by_cases c_47 : a1 = 10
  · have hf := qif_t hf c_47
    refine lv_tableIn (off := 144) (tgt := 145) hx hb dX5_tryOrder_1 (by rw [c_47]; decide) (by rw [c_47]; decide) (by rw [c_47]; decide) (by decide) ?_
    refine lv_aload_n hx hb dX5_tryOrder_145 rfl (lv_at hl 0 rfl) ?_
    refine lv_aload_n hx hb dX5_tryOrder_146 rfl (lv_at hl 0 rfl) ?_
    refine qget_X5_0 hC hR qk_226 dX5_tryOrder_147 ?_
    obtain ⟨r49, w50, hq48, hf⟩ := qbd2_s hf
    refine q_callVi hC hR (mX0_calm (qJ hC) (show 0 < 12 by decide) hq48) (by have := (show 0 < 12 by decide); omega) (qsh_hall G ad _ (show 0 < 12 by decide)) rfl qk_425 qk_426 qk_427 qk_20 qk_428 qhd_X0_calm ⟨Nat.le_of_ble_eq_true rfl, Nat.le_of_ble_eq_true rfl⟩ hl.1 rfl (Nat.le_of_ble_eq_true rfl) dX5_tryOrder_150 ⟨Nat.zero_le _, Nat.zero_le _⟩ (fun H locs hR => ?_)
    obtain ⟨r52, w53, hq51, hf⟩ := qbd2_s hf
    refine q_callVi hC hR (mX5_answered (qJ hC) hq51) (by decide) (qsh_228 G ad _) rfl qk_324 qk_326 qk_5 qk_19 qk_327 qhd_X5_answered ⟨Nat.le_of_ble_eq_true rfl, Nat.le_of_ble_eq_true rfl⟩ hl.1 rfl (Nat.le_of_ble_eq_true rfl) dX5_tryOrder_153 ⟨Nat.zero_le _, Nat.zero_le _⟩ (fun H locs hR => ?_)
    exact q_iret hC hR hr rfl (qso2 hf).1 (qso2 hf).2 dX5_tryOrder_156
  have hf := qif_f hf c_47
  refine lv_tableOut (tgt := 157) hx hb dX5_tryOrder_1 (by have hc_1 := qne (z := 1) c_1 rfl; have hc_5 := qne (z := 2) c_5 rfl; have hc_9 := qne (z := 3) c_9 rfl; have hc_13 := qne (z := 4) c_13 rfl; have hc_17 := qne (z := 5) c_17 rfl; have hc_21 := qne (z := 6) c_21 rfl; have hc_25 := qne (z := 7) c_25 rfl; have hc_32 := qne (z := 8) c_32 rfl; have hc_36 := qne (z := 9) c_36 rfl; have hc_47 := qne (z := 10) c_47 rfl; omega) (by decide) ?_
  refine lv_iconst (v := 2) hx hb dX5_tryOrder_157 (by decide) ?_
  exact q_iret hC hR hr rfl (qso2 hf).1 (qso2 hf).2 dX5_tryOrder_158
-- X5.change
def fX5_change (w : qMem)  (a1 : Int32) (a2 : Int32) (a3 : Int32) : Option (Int32 × qMem) :=
  qbd (fX1_note w 0) fun (w2 : qMem) =>
  qbd2 (fX5_tryOrder w2 a1 a2 a3) fun (r4 : Int32) (w5 : qMem) =>
  if r4 = 0 then
    qbd (fX1_keepNote w5) fun (w8 : qMem) =>
    some (r4, w8)
  else
    some (r4, w5)
theorem qhd_X5_change : yX5_change.cls ≠ "java/lang/invoke/MethodHandle" ∧ yX5_change.cls ≠ "java/lang/invoke/VarHandle" ∧ (parseMethodDescriptor yX5_change.desc).map (fun d => d.parameters.length) = some 3 := ⟨by decide +kernel, by decide +kernel, by decide +kernel⟩
set_option maxHeartbeats 4000000 in
set_option maxRecDepth 100000 in
theorem mX5_change {l : Launch} {D : va_G} {G : Nat → ClassId} {ad : Nat → Nat} (hJ : qInj ad) {w : qMem}   {a1 : Int32} {a2 : Int32} {a3 : Int32} {rF : Int32} {wF : qMem} (hf : fX5_change w a1 a2 a3 = some (rF, wF)) : qCMi l D G ad yX5_change cX5_change 5 (some .int) 7 0 0 [.ref (ad 228), .int a1, .int a2, .int a3] w rF wF := by
  refine q_start RX5 rfl (by decide +kernel) hJ (fun a b h => by simp only [qQI, qQV, qQR, qQD, qQF, h]) (Nat.le_of_ble_eq_true rfl) ?_
  intro p e s m args below meth c0 ls hC hr hR hl
  have hx := hC.1
  have hb := hC.2.1
  have hl : lv_has ls 5 [(0, .ref (ad 228)), (1, .int a1), (2, .int a2), (3, .int a3)] := hl
  unfold fX5_change at hf
  refine lv_aload_n hx hb dX5_change_0 rfl (lv_at hl 0 rfl) ?_
  refine qget_X5_3 hC hR qk_229 dX5_change_1 ?_
  refine lv_aload_n hx hb dX5_change_4 rfl (lv_at hl 0 rfl) ?_
  refine qget_X5_0 hC hR qk_226 dX5_change_5 ?_
  obtain ⟨w2, hq1, hf⟩ := qbd_s hf
  refine q_callVv hC hR (mX1_note (qJ hC) (show 0 < 12 by decide) hq1) (by decide) (qsh_229 G ad _) rfl qk_281 qk_282 qk_283 qk_22 qk_284 qhd_X1_note ⟨Nat.le_of_ble_eq_true rfl, Nat.le_of_ble_eq_true rfl⟩ hl.1 rfl (Nat.le_of_ble_eq_true rfl) dX5_change_8 ⟨Nat.zero_le _, Nat.zero_le _⟩ (fun H locs hR => ?_)
  refine lv_aload_n hx hb dX5_change_11 rfl (lv_at hl 0 rfl) ?_
  refine lv_iload_n hx hb dX5_change_12 rfl (lv_at hl 1 rfl) ?_
  refine lv_iload_n hx hb dX5_change_13 rfl (lv_at hl 2 rfl) ?_
  refine lv_iload_n hx hb dX5_change_14 rfl (lv_at hl 3 rfl) ?_
  obtain ⟨r4, w5, hq3, hf⟩ := qbd2_s hf
  refine q_callVi hC hR (mX5_tryOrder (qJ hC) hq3) (by decide) (qsh_228 G ad _) rfl qk_297 qk_299 qk_2 qk_19 qk_300 qhd_X5_tryOrder ⟨Nat.le_of_ble_eq_true rfl, Nat.le_of_ble_eq_true rfl⟩ hl.1 rfl (Nat.le_of_ble_eq_true rfl) dX5_change_15 ⟨Nat.zero_le _, Nat.zero_le _⟩ (fun H locs hR => ?_)
  refine lv_istore (lv' := [(4, .int r4), (0, .ref (ad 228)), (1, .int a1), (2, .int a2), (3, .int a3)]) hx hb dX5_change_18 hl (by decide) rfl (fun ls hl => ?_)
  refine lv_iload hx hb dX5_change_20 (lv_at hl 0 rfl) ?_
  refine lv_if_ne (tgt := 32) hx hb dX5_change_22 (by decide) (fun c_6 => ?_) (fun c_6 => ?_)
  · have hf := qif_f hf c_6
    refine lv_iload hx hb dX5_change_32 (lv_at hl 0 rfl) ?_
    exact q_iret hC hR hr rfl (qso2 hf).1 (qso2 hf).2 dX5_change_34
  · have hf := qif_t hf c_6
    refine lv_aload_n hx hb dX5_change_25 rfl (lv_at hl 1 rfl) ?_
    refine qget_X5_3 hC hR qk_229 dX5_change_26 ?_
    obtain ⟨w8, hq7, hf⟩ := qbd_s hf
    refine q_callVv hC hR (mX1_keepNote (qJ hC) hq7) (by decide) (qsh_229 G ad _) rfl qk_429 qk_430 qk_431 qk_22 qk_432 qhd_X1_keepNote ⟨Nat.le_of_ble_eq_true rfl, Nat.le_of_ble_eq_true rfl⟩ hl.1 rfl (Nat.le_of_ble_eq_true rfl) dX5_change_29 ⟨Nat.zero_le _, Nat.zero_le _⟩ (fun H locs hR => ?_)
    refine lv_iload hx hb dX5_change_32 (lv_at hl 0 rfl) ?_
    exact q_iret hC hR hr rfl (qso2 hf).1 (qso2 hf).2 dX5_change_34
-- X5.take
def fX5_take (w : qMem)  (a1 : Int32) : Option (Nat × Int32 × qMem) :=
  qbd2 (fX5_change w 4 a1 0) fun (r2 : Int32) (w3 : qMem) =>
  if r2 = 0 then
    some (0, w3 228 10, w3)
  else
    some (3, 0, w3)
theorem qhd_X5_take : yX5_take.cls ≠ "java/lang/invoke/MethodHandle" ∧ yX5_take.cls ≠ "java/lang/invoke/VarHandle" ∧ (parseMethodDescriptor yX5_take.desc).map (fun d => d.parameters.length) = some 1 := ⟨by decide +kernel, by decide +kernel, by decide +kernel⟩
set_option maxHeartbeats 4000000 in
set_option maxRecDepth 100000 in
theorem mX5_take {l : Launch} {D : va_G} {G : Nat → ClassId} {ad : Nat → Nat} (hJ : qInj ad) (hst : l.stackTraces = false) {w : qMem}   {a1 : Int32} {cF : Nat} {rF : Int32} {wF : qMem} (hf : fX5_take w a1 = some (cF, rF, wF)) : qCX l D G ad yX5_take cX5_take 2 (some .int) 8 1 6 [.ref (ad 228), .int a1] w (fun st => qxQI D G ad st cF rF wF) cF wF := by
  refine qx_start RX5 rfl (by decide +kernel) hJ (fun a b h => by simp only [qxQI, qxQV, qxQR, qxQD, qxQF, h]) (Nat.le_of_ble_eq_true rfl) ?_
  intro p e s m args below meth c0 ls hC hr ht hR hl
  have hx := hC.1
  have hb := hC.2.1
  have hl : lv_has ls 2 [(0, .ref (ad 228)), (1, .int a1)] := hl
  unfold fX5_take at hf
  refine lv_aload_n hx hb dX5_take_0 rfl (lv_at hl 0 rfl) ?_
  refine lv_iconst (v := 4) hx hb dX5_take_1 (by decide) ?_
  refine lv_iload_n hx hb dX5_take_2 rfl (lv_at hl 1 rfl) ?_
  refine lv_iconst (v := 0) hx hb dX5_take_3 (by decide) ?_
  obtain ⟨r2, w3, hq1, hf⟩ := qbd2_s hf
  refine q_callVi hC hR (mX5_change (qJ hC) hq1) (by decide) (qsh_228 G ad _) rfl qk_277 qk_279 qk_1 qk_19 qk_280 qhd_X5_change ⟨Nat.le_of_ble_eq_true rfl, Nat.le_of_ble_eq_true rfl⟩ hl.1 rfl (Nat.le_of_ble_eq_true rfl) dX5_take_4 ⟨Nat.le_of_ble_eq_true rfl, Nat.le_of_ble_eq_true rfl⟩ (fun H locs hR => ?_)
  refine lv_if_eq (tgt := 20) hx hb dX5_take_7 (by decide) (fun c_4 => ?_) (fun c_4 => ?_)
  · have hf := qif_t hf c_4
    refine lv_aload_n hx hb dX5_take_20 rfl (lv_at hl 0 rfl) ?_
    refine qget_X5_10 hC hR qk_236 dX5_take_21 ?_
    exact qx_iret hC hR hr rfl (qso3 hf).1.symm (qso3 hf).2.1 (qso3 hf).2.2 dX5_take_24 (Nat.le_of_ble_eq_true rfl) (Nat.le_of_ble_eq_true rfl)
  · have hf := qif_f hf c_4
    exact q_throw hC hR hst ht (code := cF) (E := "java/lang/IndexOutOfBoundsException") (text := "no such prop") (ik := 67) (is := 69) (ic := 71) (i := 24) (by rw [← (qso3 hf).1]; rfl) (by rw [← (qso3 hf).1]; decide) (qso3 hf).2.2 (by decide +kernel) qk_600 qxi_71 (by decide +kernel) qxw_71 hl.1 dX5_take_10 dX5_take_13 dX5_take_14 dX5_take_16 dX5_take_19 (Nat.le_of_ble_eq_true rfl) (Nat.le_of_ble_eq_true rfl) (Nat.le_of_ble_eq_true rfl) (Nat.le_of_ble_eq_true rfl) (Nat.le_of_ble_eq_true rfl) (Nat.le_of_ble_eq_true rfl)
-- X5.cue
def fX5_cue (w : qMem)  (a1 : Int32) (a2 : Int32) : Option (Nat × Int32 × qMem) :=
  qbd2 (fX5_change w 5 a1 a2) fun (r2 : Int32) (w3 : qMem) =>
  if r2 = 1 then
    some (3, 0, w3)
  else
    if r2 = 2 then
      some (1, 0, w3)
    else
      if r2 = 3 then
        some (2, 0, w3)
      else
        some (0, w3 228 10, w3)
theorem qhd_X5_cue : yX5_cue.cls ≠ "java/lang/invoke/MethodHandle" ∧ yX5_cue.cls ≠ "java/lang/invoke/VarHandle" ∧ (parseMethodDescriptor yX5_cue.desc).map (fun d => d.parameters.length) = some 2 := ⟨by decide +kernel, by decide +kernel, by decide +kernel⟩
set_option maxHeartbeats 4000000 in
set_option maxRecDepth 100000 in
theorem mX5_cue {l : Launch} {D : va_G} {G : Nat → ClassId} {ad : Nat → Nat} (hJ : qInj ad) (hst : l.stackTraces = false) {w : qMem}   {a1 : Int32} {a2 : Int32} {cF : Nat} {rF : Int32} {wF : qMem} (hf : fX5_cue w a1 a2 = some (cF, rF, wF)) : qCX l D G ad yX5_cue cX5_cue 4 (some .int) 8 1 6 [.ref (ad 228), .int a1, .int a2] w (fun st => qxQI D G ad st cF rF wF) cF wF := by
  refine qx_start RX5 rfl (by decide +kernel) hJ (fun a b h => by simp only [qxQI, qxQV, qxQR, qxQD, qxQF, h]) (Nat.le_of_ble_eq_true rfl) ?_
  intro p e s m args below meth c0 ls hC hr ht hR hl
  have hx := hC.1
  have hb := hC.2.1
  have hl : lv_has ls 4 [(0, .ref (ad 228)), (1, .int a1), (2, .int a2)] := hl
  unfold fX5_cue at hf
  refine lv_aload_n hx hb dX5_cue_0 rfl (lv_at hl 0 rfl) ?_
  refine lv_iconst (v := 5) hx hb dX5_cue_1 (by decide) ?_
  refine lv_iload_n hx hb dX5_cue_2 rfl (lv_at hl 1 rfl) ?_
  refine lv_iload_n hx hb dX5_cue_3 rfl (lv_at hl 2 rfl) ?_
  obtain ⟨r2, w3, hq1, hf⟩ := qbd2_s hf
  refine q_callVi hC hR (mX5_change (qJ hC) hq1) (by decide) (qsh_228 G ad _) rfl qk_277 qk_279 qk_1 qk_19 qk_280 qhd_X5_change ⟨Nat.le_of_ble_eq_true rfl, Nat.le_of_ble_eq_true rfl⟩ hl.1 rfl (Nat.le_of_ble_eq_true rfl) dX5_cue_4 ⟨Nat.le_of_ble_eq_true rfl, Nat.le_of_ble_eq_true rfl⟩ (fun H locs hR => ?_)
  refine lv_istore_n (lv' := [(3, .int r2), (0, .ref (ad 228)), (1, .int a1), (2, .int a2)]) hx hb dX5_cue_7 rfl hl (by decide) rfl (fun ls hl => ?_)
  refine lv_iload_n hx hb dX5_cue_8 rfl (lv_at hl 0 rfl) ?_
  refine lv_iconst (v := 1) hx hb dX5_cue_9 (by decide) ?_
  refine lv_icmp_ne (tgt := 23) hx hb dX5_cue_10 (by decide) (fun c_4 => ?_) (fun c_4 => ?_)
  · have hf := qif_f hf c_4
    refine lv_iload_n hx hb dX5_cue_23 rfl (lv_at hl 0 rfl) ?_
    refine lv_iconst (v := 2) hx hb dX5_cue_24 (by decide) ?_
    refine lv_icmp_ne (tgt := 38) hx hb dX5_cue_25 (by decide) (fun c_5 => ?_) (fun c_5 => ?_)
    · have hf := qif_f hf c_5
      refine lv_iload_n hx hb dX5_cue_38 rfl (lv_at hl 0 rfl) ?_
      refine lv_iconst (v := 3) hx hb dX5_cue_39 (by decide) ?_
      refine lv_icmp_ne (tgt := 53) hx hb dX5_cue_40 (by decide) (fun c_6 => ?_) (fun c_6 => ?_)
      · have hf := qif_f hf c_6
        refine lv_aload_n hx hb dX5_cue_53 rfl (lv_at hl 1 rfl) ?_
        refine qget_X5_10 hC hR qk_236 dX5_cue_54 ?_
        exact qx_iret hC hR hr rfl (qso3 hf).1.symm (qso3 hf).2.1 (qso3 hf).2.2 dX5_cue_57 (Nat.le_of_ble_eq_true rfl) (Nat.le_of_ble_eq_true rfl)
      · have hf := qif_t hf c_6
        exact q_throw hC hR hst ht (code := cF) (E := "java/lang/UnsupportedOperationException") (text := "the cue is refused") (ik := 79) (is := 81) (ic := 83) (i := 26) (by rw [← (qso3 hf).1]; rfl) (by rw [← (qso3 hf).1]; decide) (qso3 hf).2.2 (by decide +kernel) qk_505 qxi_83 (by decide +kernel) qxw_83 hl.1 dX5_cue_43 dX5_cue_46 dX5_cue_47 dX5_cue_49 dX5_cue_52 (Nat.le_of_ble_eq_true rfl) (Nat.le_of_ble_eq_true rfl) (Nat.le_of_ble_eq_true rfl) (Nat.le_of_ble_eq_true rfl) (Nat.le_of_ble_eq_true rfl) (Nat.le_of_ble_eq_true rfl)
    · have hf := qif_t hf c_5
      exact q_throw hC hR hst ht (code := cF) (E := "java/lang/IllegalArgumentException") (text := "the strength is not from 0 to 9") (ik := 74) (is := 76) (ic := 78) (i := 25) (by rw [← (qso3 hf).1]; rfl) (by rw [← (qso3 hf).1]; decide) (qso3 hf).2.2 (by decide +kernel) qk_433 qxi_78 (by decide +kernel) qxw_78 hl.1 dX5_cue_28 dX5_cue_31 dX5_cue_32 dX5_cue_34 dX5_cue_37 (Nat.le_of_ble_eq_true rfl) (Nat.le_of_ble_eq_true rfl) (Nat.le_of_ble_eq_true rfl) (Nat.le_of_ble_eq_true rfl) (Nat.le_of_ble_eq_true rfl) (Nat.le_of_ble_eq_true rfl)
  · have hf := qif_t hf c_4
    exact q_throw hC hR hst ht (code := cF) (E := "java/lang/IndexOutOfBoundsException") (text := "no such prop") (ik := 67) (is := 69) (ic := 71) (i := 24) (by rw [← (qso3 hf).1]; rfl) (by rw [← (qso3 hf).1]; decide) (qso3 hf).2.2 (by decide +kernel) qk_600 qxi_71 (by decide +kernel) qxw_71 hl.1 dX5_cue_13 dX5_cue_16 dX5_cue_17 dX5_cue_19 dX5_cue_22 (Nat.le_of_ble_eq_true rfl) (Nat.le_of_ble_eq_true rfl) (Nat.le_of_ble_eq_true rfl) (Nat.le_of_ble_eq_true rfl) (Nat.le_of_ble_eq_true rfl) (Nat.le_of_ble_eq_true rfl)
-- X5.shock
def fX5_shock (w : qMem)   : Option (Int32 × qMem) :=
  qbd2 (fX5_change w 7 0 0) fun (r2 : Int32) (w3 : qMem) =>
  some (w3 228 10, w3)
theorem qhd_X5_shock : yX5_shock.cls ≠ "java/lang/invoke/MethodHandle" ∧ yX5_shock.cls ≠ "java/lang/invoke/VarHandle" ∧ (parseMethodDescriptor yX5_shock.desc).map (fun d => d.parameters.length) = some 0 := ⟨by decide +kernel, by decide +kernel, by decide +kernel⟩
set_option maxHeartbeats 4000000 in
set_option maxRecDepth 100000 in
theorem mX5_shock {l : Launch} {D : va_G} {G : Nat → ClassId} {ad : Nat → Nat} (hJ : qInj ad) {w : qMem}    {rF : Int32} {wF : qMem} (hf : fX5_shock w = some (rF, wF)) : qCMi l D G ad yX5_shock cX5_shock 1 (some .int) 8 0 0 [.ref (ad 228)] w rF wF := by
  refine q_start RX5 rfl (by decide +kernel) hJ (fun a b h => by simp only [qQI, qQV, qQR, qQD, qQF, h]) (Nat.le_of_ble_eq_true rfl) ?_
  intro p e s m args below meth c0 ls hC hr hR hl
  have hx := hC.1
  have hb := hC.2.1
  have hl : lv_has ls 1 [(0, .ref (ad 228))] := hl
  unfold fX5_shock at hf
  refine lv_aload_n hx hb dX5_shock_0 rfl (lv_at hl 0 rfl) ?_
  refine lv_bipush (v := 7) hx hb dX5_shock_1 (by decide) ?_
  refine lv_iconst (v := 0) hx hb dX5_shock_3 (by decide) ?_
  refine lv_iconst (v := 0) hx hb dX5_shock_4 (by decide) ?_
  obtain ⟨r2, w3, hq1, hf⟩ := qbd2_s hf
  refine q_callVi hC hR (mX5_change (qJ hC) hq1) (by decide) (qsh_228 G ad _) rfl qk_277 qk_279 qk_1 qk_19 qk_280 qhd_X5_change ⟨Nat.le_of_ble_eq_true rfl, Nat.le_of_ble_eq_true rfl⟩ hl.1 rfl (Nat.le_of_ble_eq_true rfl) dX5_shock_5 ⟨Nat.zero_le _, Nat.zero_le _⟩ (fun H locs hR => ?_)
  refine lv_pop hx hb dX5_shock_8 rfl ?_
  refine lv_aload_n hx hb dX5_shock_9 rfl (lv_at hl 0 rfl) ?_
  refine qget_X5_10 hC hR qk_236 dX5_shock_10 ?_
  exact q_iret hC hR hr rfl (qso2 hf).1 (qso2 hf).2 dX5_shock_13
-- X5.perform
def fX5_perform (w : qMem)   : Option (Nat × Int32 × qMem) :=
  qbd2 (fX5_change w 9 0 0) fun (r2 : Int32) (w3 : qMem) =>
  if r2 = 0 then
    some (0, w3 228 10, w3)
  else
    some (2, 0, w3)
theorem qhd_X5_perform : yX5_perform.cls ≠ "java/lang/invoke/MethodHandle" ∧ yX5_perform.cls ≠ "java/lang/invoke/VarHandle" ∧ (parseMethodDescriptor yX5_perform.desc).map (fun d => d.parameters.length) = some 0 := ⟨by decide +kernel, by decide +kernel, by decide +kernel⟩
set_option maxHeartbeats 4000000 in
set_option maxRecDepth 100000 in
theorem mX5_perform {l : Launch} {D : va_G} {G : Nat → ClassId} {ad : Nat → Nat} (hJ : qInj ad) (hst : l.stackTraces = false) {w : qMem}    {cF : Nat} {rF : Int32} {wF : qMem} (hf : fX5_perform w = some (cF, rF, wF)) : qCX l D G ad yX5_perform cX5_perform 1 (some .int) 8 1 6 [.ref (ad 228)] w (fun st => qxQI D G ad st cF rF wF) cF wF := by
  refine qx_start RX5 rfl (by decide +kernel) hJ (fun a b h => by simp only [qxQI, qxQV, qxQR, qxQD, qxQF, h]) (Nat.le_of_ble_eq_true rfl) ?_
  intro p e s m args below meth c0 ls hC hr ht hR hl
  have hx := hC.1
  have hb := hC.2.1
  have hl : lv_has ls 1 [(0, .ref (ad 228))] := hl
  unfold fX5_perform at hf
  refine lv_aload_n hx hb dX5_perform_0 rfl (lv_at hl 0 rfl) ?_
  refine lv_bipush (v := 9) hx hb dX5_perform_1 (by decide) ?_
  refine lv_iconst (v := 0) hx hb dX5_perform_3 (by decide) ?_
  refine lv_iconst (v := 0) hx hb dX5_perform_4 (by decide) ?_
  obtain ⟨r2, w3, hq1, hf⟩ := qbd2_s hf
  refine q_callVi hC hR (mX5_change (qJ hC) hq1) (by decide) (qsh_228 G ad _) rfl qk_277 qk_279 qk_1 qk_19 qk_280 qhd_X5_change ⟨Nat.le_of_ble_eq_true rfl, Nat.le_of_ble_eq_true rfl⟩ hl.1 rfl (Nat.le_of_ble_eq_true rfl) dX5_perform_5 ⟨Nat.le_of_ble_eq_true rfl, Nat.le_of_ble_eq_true rfl⟩ (fun H locs hR => ?_)
  refine lv_if_eq (tgt := 21) hx hb dX5_perform_8 (by decide) (fun c_4 => ?_) (fun c_4 => ?_)
  · have hf := qif_t hf c_4
    refine lv_aload_n hx hb dX5_perform_21 rfl (lv_at hl 0 rfl) ?_
    refine qget_X5_10 hC hR qk_236 dX5_perform_22 ?_
    exact qx_iret hC hR hr rfl (qso3 hf).1.symm (qso3 hf).2.1 (qso3 hf).2.2 dX5_perform_25 (Nat.le_of_ble_eq_true rfl) (Nat.le_of_ble_eq_true rfl)
  · have hf := qif_f hf c_4
    exact q_throw hC hR hst ht (code := cF) (E := "java/lang/UnsupportedOperationException") (text := "the programme is empty") (ik := 79) (is := 88) (ic := 83) (i := 39) (by rw [← (qso3 hf).1]; rfl) (by rw [← (qso3 hf).1]; decide) (qso3 hf).2.2 (by decide +kernel) qk_505 qxi_83 (by decide +kernel) qxw_83 hl.1 dX5_perform_11 dX5_perform_14 dX5_perform_15 dX5_perform_17 dX5_perform_20 (Nat.le_of_ble_eq_true rfl) (Nat.le_of_ble_eq_true rfl) (Nat.le_of_ble_eq_true rfl) (Nat.le_of_ble_eq_true rfl) (Nat.le_of_ble_eq_true rfl) (Nat.le_of_ble_eq_true rfl)
-- X5.quiet
def fX5_quiet (w : qMem)   : Option (Int32 × qMem) :=
  qbd2 (fX5_change w 10 0 0) fun (r2 : Int32) (w3 : qMem) =>
  some (w3 228 10, w3)
theorem qhd_X5_quiet : yX5_quiet.cls ≠ "java/lang/invoke/MethodHandle" ∧ yX5_quiet.cls ≠ "java/lang/invoke/VarHandle" ∧ (parseMethodDescriptor yX5_quiet.desc).map (fun d => d.parameters.length) = some 0 := ⟨by decide +kernel, by decide +kernel, by decide +kernel⟩
set_option maxHeartbeats 4000000 in
set_option maxRecDepth 100000 in
theorem mX5_quiet {l : Launch} {D : va_G} {G : Nat → ClassId} {ad : Nat → Nat} (hJ : qInj ad) {w : qMem}    {rF : Int32} {wF : qMem} (hf : fX5_quiet w = some (rF, wF)) : qCMi l D G ad yX5_quiet cX5_quiet 1 (some .int) 8 0 0 [.ref (ad 228)] w rF wF := by
  refine q_start RX5 rfl (by decide +kernel) hJ (fun a b h => by simp only [qQI, qQV, qQR, qQD, qQF, h]) (Nat.le_of_ble_eq_true rfl) ?_
  intro p e s m args below meth c0 ls hC hr hR hl
  have hx := hC.1
  have hb := hC.2.1
  have hl : lv_has ls 1 [(0, .ref (ad 228))] := hl
  unfold fX5_quiet at hf
  refine lv_aload_n hx hb dX5_quiet_0 rfl (lv_at hl 0 rfl) ?_
  refine lv_bipush (v := 10) hx hb dX5_quiet_1 (by decide) ?_
  refine lv_iconst (v := 0) hx hb dX5_quiet_3 (by decide) ?_
  refine lv_iconst (v := 0) hx hb dX5_quiet_4 (by decide) ?_
  obtain ⟨r2, w3, hq1, hf⟩ := qbd2_s hf
  refine q_callVi hC hR (mX5_change (qJ hC) hq1) (by decide) (qsh_228 G ad _) rfl qk_277 qk_279 qk_1 qk_19 qk_280 qhd_X5_change ⟨Nat.le_of_ble_eq_true rfl, Nat.le_of_ble_eq_true rfl⟩ hl.1 rfl (Nat.le_of_ble_eq_true rfl) dX5_quiet_5 ⟨Nat.zero_le _, Nat.zero_le _⟩ (fun H locs hR => ?_)
  refine lv_pop hx hb dX5_quiet_8 rfl ?_
  refine lv_aload_n hx hb dX5_quiet_9 rfl (lv_at hl 0 rfl) ?_
  refine qget_X5_10 hC hR qk_236 dX5_quiet_10 ?_
  exact q_iret hC hR hr rfl (qso2 hf).1 (qso2 hf).2 dX5_quiet_13
-- X5.placed
def fX5_placed (w : qMem)  (a1 : Int32) (a2 : Int32) (a3 : Int32) : Option (Nat × Int32 × qMem) :=
  qbd2 (fX5_change w a1 a2 a3) fun (r2 : Int32) (w3 : qMem) =>
  if r2 = 2 then
    some (1, 0, w3)
  else
    if r2 = 3 then
      some (2, 0, w3)
    else
      some (0, w3 228 10, w3)
theorem qhd_X5_placed : yX5_placed.cls ≠ "java/lang/invoke/MethodHandle" ∧ yX5_placed.cls ≠ "java/lang/invoke/VarHandle" ∧ (parseMethodDescriptor yX5_placed.desc).map (fun d => d.parameters.length) = some 3 := ⟨by decide +kernel, by decide +kernel, by decide +kernel⟩
set_option maxHeartbeats 4000000 in
set_option maxRecDepth 100000 in
theorem mX5_placed {l : Launch} {D : va_G} {G : Nat → ClassId} {ad : Nat → Nat} (hJ : qInj ad) (hst : l.stackTraces = false) {w : qMem}   {a1 : Int32} {a2 : Int32} {a3 : Int32} {cF : Nat} {rF : Int32} {wF : qMem} (hf : fX5_placed w a1 a2 a3 = some (cF, rF, wF)) : qCX l D G ad yX5_placed cX5_placed 5 (some .int) 8 1 6 [.ref (ad 228), .int a1, .int a2, .int a3] w (fun st => qxQI D G ad st cF rF wF) cF wF := by
  refine qx_start RX5 rfl (by decide +kernel) hJ (fun a b h => by simp only [qxQI, qxQV, qxQR, qxQD, qxQF, h]) (Nat.le_of_ble_eq_true rfl) ?_
  intro p e s m args below meth c0 ls hC hr ht hR hl
  have hx := hC.1
  have hb := hC.2.1
  have hl : lv_has ls 5 [(0, .ref (ad 228)), (1, .int a1), (2, .int a2), (3, .int a3)] := hl
  unfold fX5_placed at hf
  refine lv_aload_n hx hb dX5_placed_0 rfl (lv_at hl 0 rfl) ?_
  refine lv_iload_n hx hb dX5_placed_1 rfl (lv_at hl 1 rfl) ?_
  refine lv_iload_n hx hb dX5_placed_2 rfl (lv_at hl 2 rfl) ?_
  refine lv_iload_n hx hb dX5_placed_3 rfl (lv_at hl 3 rfl) ?_
  obtain ⟨r2, w3, hq1, hf⟩ := qbd2_s hf
  refine q_callVi hC hR (mX5_change (qJ hC) hq1) (by decide) (qsh_228 G ad _) rfl qk_277 qk_279 qk_1 qk_19 qk_280 qhd_X5_change ⟨Nat.le_of_ble_eq_true rfl, Nat.le_of_ble_eq_true rfl⟩ hl.1 rfl (Nat.le_of_ble_eq_true rfl) dX5_placed_4 ⟨Nat.le_of_ble_eq_true rfl, Nat.le_of_ble_eq_true rfl⟩ (fun H locs hR => ?_)
  refine lv_istore (lv' := [(4, .int r2), (0, .ref (ad 228)), (1, .int a1), (2, .int a2), (3, .int a3)]) hx hb dX5_placed_7 hl (by decide) rfl (fun ls hl => ?_)
  refine lv_iload hx hb dX5_placed_9 (lv_at hl 0 rfl) ?_
  refine lv_iconst (v := 2) hx hb dX5_placed_11 (by decide) ?_
  refine lv_icmp_ne (tgt := 26) hx hb dX5_placed_12 (by decide) (fun c_4 => ?_) (fun c_4 => ?_)
  · have hf := qif_f hf c_4
    refine lv_iload hx hb dX5_placed_26 (lv_at hl 0 rfl) ?_
    refine lv_iconst (v := 3) hx hb dX5_placed_28 (by decide) ?_
    refine lv_icmp_ne (tgt := 43) hx hb dX5_placed_29 (by decide) (fun c_5 => ?_) (fun c_5 => ?_)
    · have hf := qif_f hf c_5
      refine lv_aload_n hx hb dX5_placed_43 rfl (lv_at hl 1 rfl) ?_
      refine qget_X5_10 hC hR qk_236 dX5_placed_44 ?_
      exact qx_iret hC hR hr rfl (qso3 hf).1.symm (qso3 hf).2.1 (qso3 hf).2.2 dX5_placed_47 (Nat.le_of_ble_eq_true rfl) (Nat.le_of_ble_eq_true rfl)
    · have hf := qif_t hf c_5
      exact q_throwW hC hR hst ht (code := cF) (E := "java/lang/UnsupportedOperationException") (text := "the hall or the floor is full") (ik := 79) (is := 307) (ic := 83) (i := 21) (by rw [← (qso3 hf).1]; rfl) (by rw [← (qso3 hf).1]; decide) (qso3 hf).2.2 (by decide +kernel) qk_505 qxi_83 (by decide +kernel) qxw_83 hl.1 dX5_placed_32 dX5_placed_35 dX5_placed_36 dX5_placed_39 dX5_placed_42 (Nat.le_of_ble_eq_true rfl) (Nat.le_of_ble_eq_true rfl) (Nat.le_of_ble_eq_true rfl) (Nat.le_of_ble_eq_true rfl) (Nat.le_of_ble_eq_true rfl) (Nat.le_of_ble_eq_true rfl)
  · have hf := qif_t hf c_4
    exact q_throwW hC hR hst ht (code := cF) (E := "java/lang/IllegalArgumentException") (text := "no such floor or measure") (ik := 74) (is := 305) (ic := 78) (i := 20) (by rw [← (qso3 hf).1]; rfl) (by rw [← (qso3 hf).1]; decide) (qso3 hf).2.2 (by decide +kernel) qk_433 qxi_78 (by decide +kernel) qxw_78 hl.1 dX5_placed_15 dX5_placed_18 dX5_placed_19 dX5_placed_22 dX5_placed_25 (Nat.le_of_ble_eq_true rfl) (Nat.le_of_ble_eq_true rfl) (Nat.le_of_ble_eq_true rfl) (Nat.le_of_ble_eq_true rfl) (Nat.le_of_ble_eq_true rfl) (Nat.le_of_ble_eq_true rfl)
-- X5.strengthTold
def fX5_strengthTold (w : qMem)  (a1 : Int32) (a2 : Int32) : Option (Nat × Int32 × qMem) :=
  qbd2 (fX5_change w a1 a2 0) fun (r2 : Int32) (w3 : qMem) =>
  if r2 = 2 then
    some (1, 0, w3)
  else
    if r2 = 3 then
      some (2, 0, w3)
    else
      some (0, w3 228 10, w3)
theorem qhd_X5_strengthTold : yX5_strengthTold.cls ≠ "java/lang/invoke/MethodHandle" ∧ yX5_strengthTold.cls ≠ "java/lang/invoke/VarHandle" ∧ (parseMethodDescriptor yX5_strengthTold.desc).map (fun d => d.parameters.length) = some 2 := ⟨by decide +kernel, by decide +kernel, by decide +kernel⟩
set_option maxHeartbeats 4000000 in
set_option maxRecDepth 100000 in
theorem mX5_strengthTold {l : Launch} {D : va_G} {G : Nat → ClassId} {ad : Nat → Nat} (hJ : qInj ad) (hst : l.stackTraces = false) {w : qMem}   {a1 : Int32} {a2 : Int32} {cF : Nat} {rF : Int32} {wF : qMem} (hf : fX5_strengthTold w a1 a2 = some (cF, rF, wF)) : qCX l D G ad yX5_strengthTold cX5_strengthTold 4 (some .int) 8 1 6 [.ref (ad 228), .int a1, .int a2] w (fun st => qxQI D G ad st cF rF wF) cF wF := by
  refine qx_start RX5 rfl (by decide +kernel) hJ (fun a b h => by simp only [qxQI, qxQV, qxQR, qxQD, qxQF, h]) (Nat.le_of_ble_eq_true rfl) ?_
  intro p e s m args below meth c0 ls hC hr ht hR hl
  have hx := hC.1
  have hb := hC.2.1
  have hl : lv_has ls 4 [(0, .ref (ad 228)), (1, .int a1), (2, .int a2)] := hl
  unfold fX5_strengthTold at hf
  refine lv_aload_n hx hb dX5_strengthTold_0 rfl (lv_at hl 0 rfl) ?_
  refine lv_iload_n hx hb dX5_strengthTold_1 rfl (lv_at hl 1 rfl) ?_
  refine lv_iload_n hx hb dX5_strengthTold_2 rfl (lv_at hl 2 rfl) ?_
  refine lv_iconst (v := 0) hx hb dX5_strengthTold_3 (by decide) ?_
  obtain ⟨r2, w3, hq1, hf⟩ := qbd2_s hf
  refine q_callVi hC hR (mX5_change (qJ hC) hq1) (by decide) (qsh_228 G ad _) rfl qk_277 qk_279 qk_1 qk_19 qk_280 qhd_X5_change ⟨Nat.le_of_ble_eq_true rfl, Nat.le_of_ble_eq_true rfl⟩ hl.1 rfl (Nat.le_of_ble_eq_true rfl) dX5_strengthTold_4 ⟨Nat.le_of_ble_eq_true rfl, Nat.le_of_ble_eq_true rfl⟩ (fun H locs hR => ?_)
  refine lv_istore_n (lv' := [(3, .int r2), (0, .ref (ad 228)), (1, .int a1), (2, .int a2)]) hx hb dX5_strengthTold_7 rfl hl (by decide) rfl (fun ls hl => ?_)
  refine lv_iload_n hx hb dX5_strengthTold_8 rfl (lv_at hl 0 rfl) ?_
  refine lv_iconst (v := 2) hx hb dX5_strengthTold_9 (by decide) ?_
  refine lv_icmp_ne (tgt := 24) hx hb dX5_strengthTold_10 (by decide) (fun c_4 => ?_) (fun c_4 => ?_)
  · have hf := qif_f hf c_4
    refine lv_iload_n hx hb dX5_strengthTold_24 rfl (lv_at hl 0 rfl) ?_
    refine lv_iconst (v := 3) hx hb dX5_strengthTold_25 (by decide) ?_
    refine lv_icmp_ne (tgt := 40) hx hb dX5_strengthTold_26 (by decide) (fun c_5 => ?_) (fun c_5 => ?_)
    · have hf := qif_f hf c_5
      refine lv_aload_n hx hb dX5_strengthTold_40 rfl (lv_at hl 1 rfl) ?_
      refine qget_X5_10 hC hR qk_236 dX5_strengthTold_41 ?_
      exact qx_iret hC hR hr rfl (qso3 hf).1.symm (qso3 hf).2.1 (qso3 hf).2.2 dX5_strengthTold_44 (Nat.le_of_ble_eq_true rfl) (Nat.le_of_ble_eq_true rfl)
    · have hf := qif_t hf c_5
      exact q_throwW hC hR hst ht (code := cF) (E := "java/lang/UnsupportedOperationException") (text := "the strength is refused") (ik := 79) (is := 309) (ic := 83) (i := 28) (by rw [← (qso3 hf).1]; rfl) (by rw [← (qso3 hf).1]; decide) (qso3 hf).2.2 (by decide +kernel) qk_505 qxi_83 (by decide +kernel) qxw_83 hl.1 dX5_strengthTold_29 dX5_strengthTold_32 dX5_strengthTold_33 dX5_strengthTold_36 dX5_strengthTold_39 (Nat.le_of_ble_eq_true rfl) (Nat.le_of_ble_eq_true rfl) (Nat.le_of_ble_eq_true rfl) (Nat.le_of_ble_eq_true rfl) (Nat.le_of_ble_eq_true rfl) (Nat.le_of_ble_eq_true rfl)
  · have hf := qif_t hf c_4
    exact q_throwW hC hR hst ht (code := cF) (E := "java/lang/IllegalArgumentException") (text := "the strength is not from 1 to 9") (ik := 74) (is := 300) (ic := 78) (i := 27) (by rw [← (qso3 hf).1]; rfl) (by rw [← (qso3 hf).1]; decide) (qso3 hf).2.2 (by decide +kernel) qk_433 qxi_78 (by decide +kernel) qxw_78 hl.1 dX5_strengthTold_13 dX5_strengthTold_16 dX5_strengthTold_17 dX5_strengthTold_20 dX5_strengthTold_23 (Nat.le_of_ble_eq_true rfl) (Nat.le_of_ble_eq_true rfl) (Nat.le_of_ble_eq_true rfl) (Nat.le_of_ble_eq_true rfl) (Nat.le_of_ble_eq_true rfl) (Nat.le_of_ble_eq_true rfl)
-- X5.cup
def fX5_cup (w : qMem)  (a1 : Int32) (a2 : Int32) : Option (Nat × Int32 × qMem) :=
  qbd3 (fX5_placed w 1 a1 a2) fun (k3 : Nat) (r5 : Int32) (w2 : qMem) =>
  if k3 = 0 then
  some (0, r5, w2)
  else some (k3, 0, w2)
theorem qhd_X5_cup : yX5_cup.cls ≠ "java/lang/invoke/MethodHandle" ∧ yX5_cup.cls ≠ "java/lang/invoke/VarHandle" ∧ (parseMethodDescriptor yX5_cup.desc).map (fun d => d.parameters.length) = some 2 := ⟨by decide +kernel, by decide +kernel, by decide +kernel⟩
set_option maxHeartbeats 4000000 in
set_option maxRecDepth 100000 in
theorem mX5_cup {l : Launch} {D : va_G} {G : Nat → ClassId} {ad : Nat → Nat} (hJ : qInj ad) (hst : l.stackTraces = false) {w : qMem}   {a1 : Int32} {a2 : Int32} {cF : Nat} {rF : Int32} {wF : qMem} (hf : fX5_cup w a1 a2 = some (cF, rF, wF)) : qCX l D G ad yX5_cup cX5_cup 3 (some .int) 9 1 6 [.ref (ad 228), .int a1, .int a2] w (fun st => qxQI D G ad st cF rF wF) cF wF := by
  refine qx_start RX5 rfl (by decide +kernel) hJ (fun a b h => by simp only [qxQI, qxQV, qxQR, qxQD, qxQF, h]) (Nat.le_of_ble_eq_true rfl) ?_
  intro p e s m args below meth c0 ls hC hr ht hR hl
  have hx := hC.1
  have hb := hC.2.1
  have hl : lv_has ls 3 [(0, .ref (ad 228)), (1, .int a1), (2, .int a2)] := hl
  unfold fX5_cup at hf
  refine lv_aload_n hx hb dX5_cup_0 rfl (lv_at hl 0 rfl) ?_
  refine lv_iconst (v := 1) hx hb dX5_cup_1 (by decide) ?_
  refine lv_iload_n hx hb dX5_cup_2 rfl (lv_at hl 1 rfl) ?_
  refine lv_iload_n hx hb dX5_cup_3 rfl (lv_at hl 2 rfl) ?_
  obtain ⟨k3, r5, w2, hq1, hf⟩ := qbd3_s hf
  refine qx_callVi hC hR (mX5_placed (qJ hC) hst hq1) (by decide) (qsh_228 G ad _) rfl qk_273 qk_275 qk_0 qk_19 qk_276 qhd_X5_placed ⟨Nat.le_of_ble_eq_true rfl, Nat.le_of_ble_eq_true rfl⟩ hl.1 rfl (Nat.le_of_ble_eq_true rfl) dX5_cup_4 ⟨Nat.le_of_ble_eq_true rfl, Nat.le_of_ble_eq_true rfl⟩ (fun h4 H locs ce q9 hR hz1 hz2 hz3 => ?_) (fun h4 H locs hR => ?_)
  · have hf := qif_f hf h4
    exact qx_out hC hR ht (qso3 hf).1 h4 (qso3 hf).2.2 hz1 hz2 hz3 (Nat.le_of_ble_eq_true rfl) (Nat.le_of_ble_eq_true rfl)
  have hf := qif_t hf h4
  exact qx_iret hC hR hr rfl (qso3 hf).1.symm (qso3 hf).2.1 (qso3 hf).2.2 dX5_cup_7 (Nat.le_of_ble_eq_true rfl) (Nat.le_of_ble_eq_true rfl)
-- X5.lamp
def fX5_lamp (w : qMem)  (a1 : Int32) (a2 : Int32) : Option (Nat × Int32 × qMem) :=
  qbd3 (fX5_placed w 2 a1 a2) fun (k3 : Nat) (r5 : Int32) (w2 : qMem) =>
  if k3 = 0 then
  some (0, r5, w2)
  else some (k3, 0, w2)
theorem qhd_X5_lamp : yX5_lamp.cls ≠ "java/lang/invoke/MethodHandle" ∧ yX5_lamp.cls ≠ "java/lang/invoke/VarHandle" ∧ (parseMethodDescriptor yX5_lamp.desc).map (fun d => d.parameters.length) = some 2 := ⟨by decide +kernel, by decide +kernel, by decide +kernel⟩
set_option maxHeartbeats 4000000 in
set_option maxRecDepth 100000 in
theorem mX5_lamp {l : Launch} {D : va_G} {G : Nat → ClassId} {ad : Nat → Nat} (hJ : qInj ad) (hst : l.stackTraces = false) {w : qMem}   {a1 : Int32} {a2 : Int32} {cF : Nat} {rF : Int32} {wF : qMem} (hf : fX5_lamp w a1 a2 = some (cF, rF, wF)) : qCX l D G ad yX5_lamp cX5_lamp 3 (some .int) 9 1 6 [.ref (ad 228), .int a1, .int a2] w (fun st => qxQI D G ad st cF rF wF) cF wF := by
  refine qx_start RX5 rfl (by decide +kernel) hJ (fun a b h => by simp only [qxQI, qxQV, qxQR, qxQD, qxQF, h]) (Nat.le_of_ble_eq_true rfl) ?_
  intro p e s m args below meth c0 ls hC hr ht hR hl
  have hx := hC.1
  have hb := hC.2.1
  have hl : lv_has ls 3 [(0, .ref (ad 228)), (1, .int a1), (2, .int a2)] := hl
  unfold fX5_lamp at hf
  refine lv_aload_n hx hb dX5_lamp_0 rfl (lv_at hl 0 rfl) ?_
  refine lv_iconst (v := 2) hx hb dX5_lamp_1 (by decide) ?_
  refine lv_iload_n hx hb dX5_lamp_2 rfl (lv_at hl 1 rfl) ?_
  refine lv_iload_n hx hb dX5_lamp_3 rfl (lv_at hl 2 rfl) ?_
  obtain ⟨k3, r5, w2, hq1, hf⟩ := qbd3_s hf
  refine qx_callVi hC hR (mX5_placed (qJ hC) hst hq1) (by decide) (qsh_228 G ad _) rfl qk_273 qk_275 qk_0 qk_19 qk_276 qhd_X5_placed ⟨Nat.le_of_ble_eq_true rfl, Nat.le_of_ble_eq_true rfl⟩ hl.1 rfl (Nat.le_of_ble_eq_true rfl) dX5_lamp_4 ⟨Nat.le_of_ble_eq_true rfl, Nat.le_of_ble_eq_true rfl⟩ (fun h4 H locs ce q9 hR hz1 hz2 hz3 => ?_) (fun h4 H locs hR => ?_)
  · have hf := qif_f hf h4
    exact qx_out hC hR ht (qso3 hf).1 h4 (qso3 hf).2.2 hz1 hz2 hz3 (Nat.le_of_ble_eq_true rfl) (Nat.le_of_ble_eq_true rfl)
  have hf := qif_t hf h4
  exact qx_iret hC hR hr rfl (qso3 hf).1.symm (qso3 hf).2.1 (qso3 hf).2.2 dX5_lamp_7 (Nat.le_of_ble_eq_true rfl) (Nat.le_of_ble_eq_true rfl)
-- X5.cat
def fX5_cat (w : qMem)  (a1 : Int32) (a2 : Int32) : Option (Nat × Int32 × qMem) :=
  qbd3 (fX5_placed w 3 a1 a2) fun (k3 : Nat) (r5 : Int32) (w2 : qMem) =>
  if k3 = 0 then
  some (0, r5, w2)
  else some (k3, 0, w2)
theorem qhd_X5_cat : yX5_cat.cls ≠ "java/lang/invoke/MethodHandle" ∧ yX5_cat.cls ≠ "java/lang/invoke/VarHandle" ∧ (parseMethodDescriptor yX5_cat.desc).map (fun d => d.parameters.length) = some 2 := ⟨by decide +kernel, by decide +kernel, by decide +kernel⟩
set_option maxHeartbeats 4000000 in
set_option maxRecDepth 100000 in
theorem mX5_cat {l : Launch} {D : va_G} {G : Nat → ClassId} {ad : Nat → Nat} (hJ : qInj ad) (hst : l.stackTraces = false) {w : qMem}   {a1 : Int32} {a2 : Int32} {cF : Nat} {rF : Int32} {wF : qMem} (hf : fX5_cat w a1 a2 = some (cF, rF, wF)) : qCX l D G ad yX5_cat cX5_cat 3 (some .int) 9 1 6 [.ref (ad 228), .int a1, .int a2] w (fun st => qxQI D G ad st cF rF wF) cF wF := by
  refine qx_start RX5 rfl (by decide +kernel) hJ (fun a b h => by simp only [qxQI, qxQV, qxQR, qxQD, qxQF, h]) (Nat.le_of_ble_eq_true rfl) ?_
  intro p e s m args below meth c0 ls hC hr ht hR hl
  have hx := hC.1
  have hb := hC.2.1
  have hl : lv_has ls 3 [(0, .ref (ad 228)), (1, .int a1), (2, .int a2)] := hl
  unfold fX5_cat at hf
  refine lv_aload_n hx hb dX5_cat_0 rfl (lv_at hl 0 rfl) ?_
  refine lv_iconst (v := 3) hx hb dX5_cat_1 (by decide) ?_
  refine lv_iload_n hx hb dX5_cat_2 rfl (lv_at hl 1 rfl) ?_
  refine lv_iload_n hx hb dX5_cat_3 rfl (lv_at hl 2 rfl) ?_
  obtain ⟨k3, r5, w2, hq1, hf⟩ := qbd3_s hf
  refine qx_callVi hC hR (mX5_placed (qJ hC) hst hq1) (by decide) (qsh_228 G ad _) rfl qk_273 qk_275 qk_0 qk_19 qk_276 qhd_X5_placed ⟨Nat.le_of_ble_eq_true rfl, Nat.le_of_ble_eq_true rfl⟩ hl.1 rfl (Nat.le_of_ble_eq_true rfl) dX5_cat_4 ⟨Nat.le_of_ble_eq_true rfl, Nat.le_of_ble_eq_true rfl⟩ (fun h4 H locs ce q9 hR hz1 hz2 hz3 => ?_) (fun h4 H locs hR => ?_)
  · have hf := qif_f hf h4
    exact qx_out hC hR ht (qso3 hf).1 h4 (qso3 hf).2.2 hz1 hz2 hz3 (Nat.le_of_ble_eq_true rfl) (Nat.le_of_ble_eq_true rfl)
  have hf := qif_t hf h4
  exact qx_iret hC hR hr rfl (qso3 hf).1.symm (qso3 hf).2.1 (qso3 hf).2.2 dX5_cat_7 (Nat.le_of_ble_eq_true rfl) (Nat.le_of_ble_eq_true rfl)
-- X5.set
def fX5_set (w : qMem)  (a1 : Int32) : Option (Nat × Int32 × qMem) :=
  qbd3 (fX5_strengthTold w 6 a1) fun (k3 : Nat) (r5 : Int32) (w2 : qMem) =>
  if k3 = 0 then
  some (0, r5, w2)
  else some (k3, 0, w2)
theorem qhd_X5_set : yX5_set.cls ≠ "java/lang/invoke/MethodHandle" ∧ yX5_set.cls ≠ "java/lang/invoke/VarHandle" ∧ (parseMethodDescriptor yX5_set.desc).map (fun d => d.parameters.length) = some 1 := ⟨by decide +kernel, by decide +kernel, by decide +kernel⟩
set_option maxHeartbeats 4000000 in
set_option maxRecDepth 100000 in
theorem mX5_set {l : Launch} {D : va_G} {G : Nat → ClassId} {ad : Nat → Nat} (hJ : qInj ad) (hst : l.stackTraces = false) {w : qMem}   {a1 : Int32} {cF : Nat} {rF : Int32} {wF : qMem} (hf : fX5_set w a1 = some (cF, rF, wF)) : qCX l D G ad yX5_set cX5_set 2 (some .int) 9 1 6 [.ref (ad 228), .int a1] w (fun st => qxQI D G ad st cF rF wF) cF wF := by
  refine qx_start RX5 rfl (by decide +kernel) hJ (fun a b h => by simp only [qxQI, qxQV, qxQR, qxQD, qxQF, h]) (Nat.le_of_ble_eq_true rfl) ?_
  intro p e s m args below meth c0 ls hC hr ht hR hl
  have hx := hC.1
  have hb := hC.2.1
  have hl : lv_has ls 2 [(0, .ref (ad 228)), (1, .int a1)] := hl
  unfold fX5_set at hf
  refine lv_aload_n hx hb dX5_set_0 rfl (lv_at hl 0 rfl) ?_
  refine lv_bipush (v := 6) hx hb dX5_set_1 (by decide) ?_
  refine lv_iload_n hx hb dX5_set_3 rfl (lv_at hl 1 rfl) ?_
  obtain ⟨k3, r5, w2, hq1, hf⟩ := qbd3_s hf
  refine qx_callVi hC hR (mX5_strengthTold (qJ hC) hst hq1) (by decide) (qsh_228 G ad _) rfl qk_622 qk_624 qk_11 qk_19 qk_625 qhd_X5_strengthTold ⟨Nat.le_of_ble_eq_true rfl, Nat.le_of_ble_eq_true rfl⟩ hl.1 rfl (Nat.le_of_ble_eq_true rfl) dX5_set_4 ⟨Nat.le_of_ble_eq_true rfl, Nat.le_of_ble_eq_true rfl⟩ (fun h4 H locs ce q9 hR hz1 hz2 hz3 => ?_) (fun h4 H locs hR => ?_)
  · have hf := qif_f hf h4
    exact qx_out hC hR ht (qso3 hf).1 h4 (qso3 hf).2.2 hz1 hz2 hz3 (Nat.le_of_ble_eq_true rfl) (Nat.le_of_ble_eq_true rfl)
  have hf := qif_t hf h4
  exact qx_iret hC hR hr rfl (qso3 hf).1.symm (qso3 hf).2.1 (qso3 hf).2.2 dX5_set_7 (Nat.le_of_ble_eq_true rfl) (Nat.le_of_ble_eq_true rfl)
-- X5.add
def fX5_add (w : qMem)  (a1 : Int32) : Option (Nat × Int32 × qMem) :=
  qbd3 (fX5_strengthTold w 8 a1) fun (k3 : Nat) (r5 : Int32) (w2 : qMem) =>
  if k3 = 0 then
  some (0, r5, w2)
  else some (k3, 0, w2)
theorem qhd_X5_add : yX5_add.cls ≠ "java/lang/invoke/MethodHandle" ∧ yX5_add.cls ≠ "java/lang/invoke/VarHandle" ∧ (parseMethodDescriptor yX5_add.desc).map (fun d => d.parameters.length) = some 1 := ⟨by decide +kernel, by decide +kernel, by decide +kernel⟩
set_option maxHeartbeats 4000000 in
set_option maxRecDepth 100000 in
theorem mX5_add {l : Launch} {D : va_G} {G : Nat → ClassId} {ad : Nat → Nat} (hJ : qInj ad) (hst : l.stackTraces = false) {w : qMem}   {a1 : Int32} {cF : Nat} {rF : Int32} {wF : qMem} (hf : fX5_add w a1 = some (cF, rF, wF)) : qCX l D G ad yX5_add cX5_add 2 (some .int) 9 1 6 [.ref (ad 228), .int a1] w (fun st => qxQI D G ad st cF rF wF) cF wF := by
  refine qx_start RX5 rfl (by decide +kernel) hJ (fun a b h => by simp only [qxQI, qxQV, qxQR, qxQD, qxQF, h]) (Nat.le_of_ble_eq_true rfl) ?_
  intro p e s m args below meth c0 ls hC hr ht hR hl
  have hx := hC.1
  have hb := hC.2.1
  have hl : lv_has ls 2 [(0, .ref (ad 228)), (1, .int a1)] := hl
  unfold fX5_add at hf
  refine lv_aload_n hx hb dX5_add_0 rfl (lv_at hl 0 rfl) ?_
  refine lv_bipush (v := 8) hx hb dX5_add_1 (by decide) ?_
  refine lv_iload_n hx hb dX5_add_3 rfl (lv_at hl 1 rfl) ?_
  obtain ⟨k3, r5, w2, hq1, hf⟩ := qbd3_s hf
  refine qx_callVi hC hR (mX5_strengthTold (qJ hC) hst hq1) (by decide) (qsh_228 G ad _) rfl qk_622 qk_624 qk_11 qk_19 qk_625 qhd_X5_strengthTold ⟨Nat.le_of_ble_eq_true rfl, Nat.le_of_ble_eq_true rfl⟩ hl.1 rfl (Nat.le_of_ble_eq_true rfl) dX5_add_4 ⟨Nat.le_of_ble_eq_true rfl, Nat.le_of_ble_eq_true rfl⟩ (fun h4 H locs ce q9 hR hz1 hz2 hz3 => ?_) (fun h4 H locs hR => ?_)
  · have hf := qif_f hf h4
    exact qx_out hC hR ht (qso3 hf).1 h4 (qso3 hf).2.2 hz1 hz2 hz3 (Nat.le_of_ble_eq_true rfl) (Nat.le_of_ble_eq_true rfl)
  have hf := qif_t hf h4
  exact qx_iret hC hR hr rfl (qso3 hf).1.symm (qso3 hf).2.1 (qso3 hf).2.2 dX5_add_7 (Nat.le_of_ble_eq_true rfl) (Nat.le_of_ble_eq_true rfl)
