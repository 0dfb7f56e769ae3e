-- X6.propOf
def fX6_propOf (w : qMem)  (a1 : Int32) (a2 : Int32) : Option (Int32 × qMem) :=
  qbd (fX6_isProp w a1) fun (r2 : Int32) =>
  if r2 = 0 then
    qnm (quw w 238 7 1) fun (w15 : qMem) =>
    if w15 238 7 ≤ 0 then
      qbd (fX6_of w15 a1 a2) fun (r18 : Int32) =>
      some (r18, w15)
    else
      some (0, w15)
  else
    qbd (fX6_in w a2 0 6) fun (r5 : Int32) =>
    if r5 = 0 then
      qnm (quw w 238 7 2) fun (w11 : qMem) =>
      if w11 238 7 ≤ 0 then
        qbd (fX6_of w11 a1 a2) fun (r14 : Int32) =>
        some (r14, w11)
      else
        some (0, w11)
    else
      qnm (quw w 238 7 0) fun (w7 : qMem) =>
      if w7 238 7 ≤ 0 then
        qbd (fX6_of w7 a1 a2) fun (r10 : Int32) =>
        some (r10, w7)
      else
        some (0, w7)
theorem qhd_X6_propOf : yX6_propOf.cls ≠ "java/lang/invoke/MethodHandle" ∧ yX6_propOf.cls ≠ "java/lang/invoke/VarHandle" ∧ (parseMethodDescriptor yX6_propOf.desc).map (fun d => d.parameters.length) = some 2 := ⟨by decide +kernel, by decide +kernel, by decide +kernel⟩
set_option maxHeartbeats 4000000 in
set_option maxRecDepth 100000 in
theorem mX6_propOf {l : Launch} {D : va_G} {G : Nat → ClassId} {ad : Nat → Nat} (hJ : qInj ad) {w : qMem}   {a1 : Int32} {a2 : Int32} {rF : Int32} {wF : qMem} (hf : fX6_propOf w a1 a2 = some (rF, wF)) : qCMi l D G ad yX6_propOf cX6_propOf 3 (some .int) 3 0 0 [.ref (ad 238), .int a1, .int a2] w rF wF := by
  refine q_start RX6 rfl (by decide +kernel) hJ (fun a b h => by simp only [qQI, qQV, qQR, h]) (Nat.le_of_ble_eq_true rfl) ?_
  intro p e s m args below meth c0 ls hC hr hR hl
  have hx := hC.1
  have hb := hC.2.1
  have hl : lv_has ls 3 [(0, .ref (ad 238)), (1, .int a1), (2, .int a2)] := hl
  unfold fX6_propOf at hf
  refine lv_aload_n hx hb dX6_propOf_0 rfl (lv_at hl 0 rfl) ?_
  refine lv_aload_n hx hb dX6_propOf_1 rfl (lv_at hl 0 rfl) ?_
  refine lv_iload_n hx hb dX6_propOf_2 rfl (lv_at hl 1 rfl) ?_
  obtain ⟨r2, hq1, hf⟩ := qbd_s hf
  refine q_callVi hC hR (mX6_isProp (qJ hC) hq1) (by decide) (qsh_238 G ad _) rfl qk_1258 qk_1260 qk_27 qk_64 qk_1261 qhd_X6_isProp ⟨Nat.le_of_ble_eq_true rfl, Nat.le_of_ble_eq_true rfl⟩ hl.1 rfl (Nat.le_of_ble_eq_true rfl) dX6_propOf_3 ⟨Nat.zero_le _, Nat.zero_le _⟩ (fun H locs hR => ?_)
  refine lv_if_ne (tgt := 13) hx hb dX6_propOf_6 (by decide) (fun c_3 => ?_) (fun c_3 => ?_)
  · have hf := qif_f hf c_3
    refine lv_iload_n hx hb dX6_propOf_13 rfl (lv_at hl 2 rfl) ?_
    refine lv_iconst (v := 0) hx hb dX6_propOf_14 (by decide) ?_
    refine lv_bipush (v := 6) hx hb dX6_propOf_15 (by decide) ?_
    obtain ⟨r5, hq4, hf⟩ := qbd_s hf
    refine q_callSi hC hR (mX6_in (qJ hC) hq4) qk_1215 qk_1216 qk_64 qk_1217 qhd_X6_in ⟨Nat.le_of_ble_eq_true rfl, Nat.le_of_ble_eq_true rfl⟩ hl.1 rfl (Nat.le_of_ble_eq_true rfl) dX6_propOf_17 ⟨Nat.zero_le _, Nat.zero_le _⟩ (fun H locs hR => ?_)
    refine lv_if_ne (tgt := 27) hx hb dX6_propOf_20 (by decide) (fun c_6 => ?_) (fun c_6 => ?_)
    · have hf := qif_f hf c_6
      refine lv_iconst (v := 0) hx hb dX6_propOf_27 (by decide) ?_
      refine qput_X6_7 hC hR qk_1132 ⟨rfl, rfl⟩ dX6_propOf_28 (fun w7 H locs ew7 hR => ?_)
      have hf := qnm_t hf ew7
      refine lv_aload_n hx hb dX6_propOf_31 rfl (lv_at hl 0 rfl) ?_
      refine qget_X6_7 hC hR qk_1132 dX6_propOf_32 ?_
      refine lv_if_le (tgt := 42) hx hb dX6_propOf_35 (by decide) (fun c_8 => ?_) (fun c_8 => ?_)
      · have hf := qif_t hf c_8
        refine lv_aload_n hx hb dX6_propOf_42 rfl (lv_at hl 0 rfl) ?_
        refine lv_iload_n hx hb dX6_propOf_43 rfl (lv_at hl 1 rfl) ?_
        refine lv_iload_n hx hb dX6_propOf_44 rfl (lv_at hl 2 rfl) ?_
        obtain ⟨r10, hq9, hf⟩ := qbd_s hf
        refine q_callVi hC hR (mX6_of (qJ hC) hq9) (by decide) (qsh_238 G ad _) rfl qk_1230 qk_1232 qk_23 qk_64 qk_1233 qhd_X6_of ⟨Nat.le_of_ble_eq_true rfl, Nat.le_of_ble_eq_true rfl⟩ hl.1 rfl (Nat.le_of_ble_eq_true rfl) dX6_propOf_45 ⟨Nat.zero_le _, Nat.zero_le _⟩ (fun H locs hR => ?_)
        exact q_iret hC hR hr rfl (qso2 hf).1 (qso2 hf).2 dX6_propOf_48
      · have hf := qif_f hf c_8
        refine lv_iconst (v := 0) hx hb dX6_propOf_38 (by decide) ?_
        refine lv_goto (tgt := 48) hx hb dX6_propOf_39 (by decide) ?_
        exact q_iret hC hR hr rfl (qso2 hf).1 (qso2 hf).2 dX6_propOf_48
    · have hf := qif_t hf c_6
      refine lv_iconst (v := 2) hx hb dX6_propOf_23 (by decide) ?_
      refine lv_goto (tgt := 28) hx hb dX6_propOf_24 (by decide) ?_
      refine qput_X6_7 hC hR qk_1132 ⟨rfl, rfl⟩ dX6_propOf_28 (fun w11 H locs ew11 hR => ?_)
      have hf := qnm_t hf ew11
      refine lv_aload_n hx hb dX6_propOf_31 rfl (lv_at hl 0 rfl) ?_
      refine qget_X6_7 hC hR qk_1132 dX6_propOf_32 ?_
      refine lv_if_le (tgt := 42) hx hb dX6_propOf_35 (by decide) (fun c_12 => ?_) (fun c_12 => ?_)
      · have hf := qif_t hf c_12
        refine lv_aload_n hx hb dX6_propOf_42 rfl (lv_at hl 0 rfl) ?_
        refine lv_iload_n hx hb dX6_propOf_43 rfl (lv_at hl 1 rfl) ?_
        refine lv_iload_n hx hb dX6_propOf_44 rfl (lv_at hl 2 rfl) ?_
        obtain ⟨r14, hq13, hf⟩ := qbd_s hf
        refine q_callVi hC hR (mX6_of (qJ hC) hq13) (by decide) (qsh_238 G ad _) rfl qk_1230 qk_1232 qk_23 qk_64 qk_1233 qhd_X6_of ⟨Nat.le_of_ble_eq_true rfl, Nat.le_of_ble_eq_true rfl⟩ hl.1 rfl (Nat.le_of_ble_eq_true rfl) dX6_propOf_45 ⟨Nat.zero_le _, Nat.zero_le _⟩ (fun H locs hR => ?_)
        exact q_iret hC hR hr rfl (qso2 hf).1 (qso2 hf).2 dX6_propOf_48
      · have hf := qif_f hf c_12
        refine lv_iconst (v := 0) hx hb dX6_propOf_38 (by decide) ?_
        refine lv_goto (tgt := 48) hx hb dX6_propOf_39 (by decide) ?_
        exact q_iret hC hR hr rfl (qso2 hf).1 (qso2 hf).2 dX6_propOf_48
  · have hf := qif_t hf c_3
    refine lv_iconst (v := 1) hx hb dX6_propOf_9 (by decide) ?_
    refine lv_goto (tgt := 28) hx hb dX6_propOf_10 (by decide) ?_
    refine qput_X6_7 hC hR qk_1132 ⟨rfl, rfl⟩ dX6_propOf_28 (fun w15 H locs ew15 hR => ?_)
    have hf := qnm_t hf ew15
    refine lv_aload_n hx hb dX6_propOf_31 rfl (lv_at hl 0 rfl) ?_
    refine qget_X6_7 hC hR qk_1132 dX6_propOf_32 ?_
    refine lv_if_le (tgt := 42) hx hb dX6_propOf_35 (by decide) (fun c_16 => ?_) (fun c_16 => ?_)
    · have hf := qif_t hf c_16
      refine lv_aload_n hx hb dX6_propOf_42 rfl (lv_at hl 0 rfl) ?_
      refine lv_iload_n hx hb dX6_propOf_43 rfl (lv_at hl 1 rfl) ?_
      refine lv_iload_n hx hb dX6_propOf_44 rfl (lv_at hl 2 rfl) ?_
      obtain ⟨r18, hq17, hf⟩ := qbd_s hf
      refine q_callVi hC hR (mX6_of (qJ hC) hq17) (by decide) (qsh_238 G ad _) rfl qk_1230 qk_1232 qk_23 qk_64 qk_1233 qhd_X6_of ⟨Nat.le_of_ble_eq_true rfl, Nat.le_of_ble_eq_true rfl⟩ hl.1 rfl (Nat.le_of_ble_eq_true rfl) dX6_propOf_45 ⟨Nat.zero_le _, Nat.zero_le _⟩ (fun H locs hR => ?_)
      exact q_iret hC hR hr rfl (qso2 hf).1 (qso2 hf).2 dX6_propOf_48
    · have hf := qif_f hf c_16
      refine lv_iconst (v := 0) hx hb dX6_propOf_38 (by decide) ?_
      refine lv_goto (tgt := 48) hx hb dX6_propOf_39 (by decide) ?_
      exact q_iret hC hR hr rfl (qso2 hf).1 (qso2 hf).2 dX6_propOf_48
-- X6.programme
def fX6_programme (w : qMem)  (a1 : Int32) : Option (Int32 × qMem) :=
  qbd (fX6_in w a1 0 ((w 239 6) - 1)) fun (r2 : Int32) =>
  if r2 = 0 then
    qnm (quw w 238 7 1) fun (w4 : qMem) =>
    if w4 238 7 ≤ 0 then
      if qin (7 + a1) 99 = true then
      some (w4 239 (7 + a1).toNatClampNeg, w4)
      else none
    else
      some (0, w4)
  else
    qnm (quw w 238 7 0) fun (w7 : qMem) =>
    if w7 238 7 ≤ 0 then
      if qin (7 + a1) 99 = true then
      some (w7 239 (7 + a1).toNatClampNeg, w7)
      else none
    else
      some (0, w7)
theorem qhd_X6_programme : yX6_programme.cls ≠ "java/lang/invoke/MethodHandle" ∧ yX6_programme.cls ≠ "java/lang/invoke/VarHandle" ∧ (parseMethodDescriptor yX6_programme.desc).map (fun d => d.parameters.length) = some 1 := ⟨by decide +kernel, by decide +kernel, by decide +kernel⟩
set_option maxHeartbeats 4000000 in
set_option maxRecDepth 100000 in
theorem mX6_programme {l : Launch} {D : va_G} {G : Nat → ClassId} {ad : Nat → Nat} (hJ : qInj ad) {w : qMem}   {a1 : Int32} {rF : Int32} {wF : qMem} (hf : fX6_programme w a1 = some (rF, wF)) : qCMi l D G ad yX6_programme cX6_programme 2 (some .int) 2 0 0 [.ref (ad 238), .int a1] w rF wF := by
  refine q_start RX6 rfl (by decide +kernel) hJ (fun a b h => by simp only [qQI, qQV, qQR, h]) (Nat.le_of_ble_eq_true rfl) ?_
  intro p e s m args below meth c0 ls hC hr hR hl
  have hx := hC.1
  have hb := hC.2.1
  have hl : lv_has ls 2 [(0, .ref (ad 238)), (1, .int a1)] := hl
  unfold fX6_programme at hf
  refine lv_aload_n hx hb dX6_programme_0 rfl (lv_at hl 0 rfl) ?_
  refine lv_iload_n hx hb dX6_programme_1 rfl (lv_at hl 1 rfl) ?_
  refine lv_iconst (v := 0) hx hb dX6_programme_2 (by decide) ?_
  refine lv_aload_n hx hb dX6_programme_3 rfl (lv_at hl 0 rfl) ?_
  refine qget_X6_0 hC hR qk_1125 dX6_programme_4 ?_
  refine lv_bipush (v := 6) hx hb dX6_programme_7 (by decide) ?_
  refine q_ild hC hR (j := 6) (by decide) (qsh_239 G ad _) (by decide) (by decide) dX6_programme_9 ?_
  refine lv_iconst (v := 1) hx hb dX6_programme_10 (by decide) ?_
  refine lv_isub hx hb dX6_programme_11 ?_
  obtain ⟨r2, hq1, hf⟩ := qbd_s hf
  refine q_callSi hC hR (mX6_in (qJ hC) hq1) qk_1215 qk_1216 qk_64 qk_1217 qhd_X6_in ⟨Nat.le_of_ble_eq_true rfl, Nat.le_of_ble_eq_true rfl⟩ hl.1 rfl (Nat.le_of_ble_eq_true rfl) dX6_programme_12 ⟨Nat.zero_le _, Nat.zero_le _⟩ (fun H locs hR => ?_)
  refine lv_if_eq (tgt := 22) hx hb dX6_programme_15 (by decide) (fun c_3 => ?_) (fun c_3 => ?_)
  · have hf := qif_t hf c_3
    refine lv_iconst (v := 1) hx hb dX6_programme_22 (by decide) ?_
    refine qput_X6_7 hC hR qk_1132 ⟨rfl, rfl⟩ dX6_programme_23 (fun w4 H locs ew4 hR => ?_)
    have hf := qnm_t hf ew4
    refine lv_aload_n hx hb dX6_programme_26 rfl (lv_at hl 0 rfl) ?_
    refine qget_X6_7 hC hR qk_1132 dX6_programme_27 ?_
    refine lv_if_le (tgt := 37) hx hb dX6_programme_30 (by decide) (fun c_5 => ?_) (fun c_5 => ?_)
    · have hf := qif_t hf c_5
      refine lv_aload_n hx hb dX6_programme_37 rfl (lv_at hl 0 rfl) ?_
      refine qget_X6_0 hC hR qk_1125 dX6_programme_38 ?_
      refine lv_bipush (v := 7) hx hb dX6_programme_41 (by decide) ?_
      refine lv_iload_n hx hb dX6_programme_43 rfl (lv_at hl 1 rfl) ?_
      refine lv_iadd hx hb dX6_programme_44 ?_
      obtain ⟨g6, hf⟩ := qgd hf
      refine q_ild hC hR (j := (7 + a1).toNatClampNeg) (by decide) (qsh_239 G ad _) g6 rfl dX6_programme_45 ?_
      exact q_iret hC hR hr rfl (qso2 hf).1 (qso2 hf).2 dX6_programme_46
    · have hf := qif_f hf c_5
      refine lv_iconst (v := 0) hx hb dX6_programme_33 (by decide) ?_
      refine lv_goto (tgt := 46) hx hb dX6_programme_34 (by decide) ?_
      exact q_iret hC hR hr rfl (qso2 hf).1 (qso2 hf).2 dX6_programme_46
  · have hf := qif_f hf c_3
    refine lv_iconst (v := 0) hx hb dX6_programme_18 (by decide) ?_
    refine lv_goto (tgt := 23) hx hb dX6_programme_19 (by decide) ?_
    refine qput_X6_7 hC hR qk_1132 ⟨rfl, rfl⟩ dX6_programme_23 (fun w7 H locs ew7 hR => ?_)
    have hf := qnm_t hf ew7
    refine lv_aload_n hx hb dX6_programme_26 rfl (lv_at hl 0 rfl) ?_
    refine qget_X6_7 hC hR qk_1132 dX6_programme_27 ?_
    refine lv_if_le (tgt := 37) hx hb dX6_programme_30 (by decide) (fun c_8 => ?_) (fun c_8 => ?_)
    · have hf := qif_t hf c_8
      refine lv_aload_n hx hb dX6_programme_37 rfl (lv_at hl 0 rfl) ?_
      refine qget_X6_0 hC hR qk_1125 dX6_programme_38 ?_
      refine lv_bipush (v := 7) hx hb dX6_programme_41 (by decide) ?_
      refine lv_iload_n hx hb dX6_programme_43 rfl (lv_at hl 1 rfl) ?_
      refine lv_iadd hx hb dX6_programme_44 ?_
      obtain ⟨g9, hf⟩ := qgd hf
      refine q_ild hC hR (j := (7 + a1).toNatClampNeg) (by decide) (qsh_239 G ad _) g9 rfl dX6_programme_45 ?_
      exact q_iret hC hR hr rfl (qso2 hf).1 (qso2 hf).2 dX6_programme_46
    · have hf := qif_f hf c_8
      refine lv_iconst (v := 0) hx hb dX6_programme_33 (by decide) ?_
      refine lv_goto (tgt := 46) hx hb dX6_programme_34 (by decide) ?_
      exact q_iret hC hR hr rfl (qso2 hf).1 (qso2 hf).2 dX6_programme_46
-- X6.on
def fX6_on_L19   (w : qMem) (x1 : Int32) (x2 : Int32) : Option (Int32 × qMem) :=
  qnm (quw w 238 7 1) fun (w4 : qMem) =>
  if w4 238 7 ≤ 0 then
    qbd (fX6_strengthOn w4 x1 x2) fun (r7 : Int32) =>
    some (r7, w4)
  else
    some (0, w4)
set_option maxHeartbeats 4000000 in
set_option maxRecDepth 100000 in
theorem mX6_on_L19 {p : Program} {l : Launch} {e : Env} {s : State} {m : MethodId} {args : Array Value} {below : List Frame} {meth : Method} {c0 : Code} {D : va_G} {G : Nat → ClassId} {ad : Nat → Nat}   {rF : Int32} {wF : qMem}  (hC : qCx p c0 cX6_on 4 s m args meth RX6 D G ad) (hr : meth.sig.returnType = some .int)  : ∀ (w : qMem) (x1 : Int32) (x2 : Int32) (H : Heap) (locs : List Loc) (ls : Array Slot), fX6_on_L19 w x1 x2 = some (rF, wF) → qRp D G ad s w H locs → lv_has ls 4 [(0, .ref (ad 238)), (1, .int x1), (2, .int x2)] → W p l e (qrm 4 0 0) s m args below meth c0 H locs 0 0 (MQ below (qQI D G ad s wF rF) args s 0 0 (qAdr ad s.heap.size)) (F0 m 19 ls [.ref (ad 238)]) := by
  have hx := hC.1
  have hb := hC.2.1
  intro w x1 x2 H locs ls hf hR hl
  unfold fX6_on_L19 at hf
  refine lv_iconst (v := 1) hx hb dX6_on_19 (by decide) ?_
  refine qput_X6_7 hC hR qk_1132 ⟨rfl, rfl⟩ dX6_on_20 (fun w4 H locs ew4 hR => ?_)
  have hf := qnm_t hf ew4
  refine lv_aload_n hx hb dX6_on_23 rfl (lv_at hl 0 rfl) ?_
  refine qget_X6_7 hC hR qk_1132 dX6_on_24 ?_
  refine lv_if_le (tgt := 34) hx hb dX6_on_27 (by decide) (fun c_5 => ?_) (fun c_5 => ?_)
  · have hf := qif_t hf c_5
    refine lv_aload_n hx hb dX6_on_34 rfl (lv_at hl 0 rfl) ?_
    refine lv_iload_n hx hb dX6_on_35 rfl (lv_at hl 1 rfl) ?_
    refine lv_iload_n hx hb dX6_on_36 rfl (lv_at hl 2 rfl) ?_
    obtain ⟨r7, hq6, hf⟩ := qbd_s hf
    refine q_callVi hC hR (mX6_strengthOn (qJ hC) hq6) (by decide) (qsh_238 G ad _) rfl qk_1289 qk_1291 qk_31 qk_64 qk_1292 qhd_X6_strengthOn ⟨Nat.le_of_ble_eq_true rfl, Nat.le_of_ble_eq_true rfl⟩ hl.1 rfl (Nat.le_of_ble_eq_true rfl) dX6_on_37 ⟨Nat.zero_le _, Nat.zero_le _⟩ (fun H locs hR => ?_)
    exact q_iret hC hR hr rfl (qso2 hf).1 (qso2 hf).2 dX6_on_40
  · have hf := qif_f hf c_5
    refine lv_iconst (v := 0) hx hb dX6_on_30 (by decide) ?_
    refine lv_goto (tgt := 40) hx hb dX6_on_31 (by decide) ?_
    exact q_iret hC hR hr rfl (qso2 hf).1 (qso2 hf).2 dX6_on_40
def fX6_on (w : qMem)  (a1 : Int32) (a2 : Int32) (a3 : Int32) : Option (Int32 × qMem) :=
  qbd (fX6_isStrength w a1) fun (r2 : Int32) =>
  if r2 = 0 then
    fX6_on_L19 w a1 a2
  else
    qbd (fX6_isFloor w a2) fun (r9 : Int32) =>
    if r9 = 0 then
      fX6_on_L19 w a1 a2
    else
      qnm (quw w 238 7 0) fun (w11 : qMem) =>
      if w11 238 7 ≤ 0 then
        qbd (fX6_strengthOn w11 a1 a2) fun (r14 : Int32) =>
        some (r14, w11)
      else
        some (0, w11)
theorem qhd_X6_on : yX6_on.cls ≠ "java/lang/invoke/MethodHandle" ∧ yX6_on.cls ≠ "java/lang/invoke/VarHandle" ∧ (parseMethodDescriptor yX6_on.desc).map (fun d => d.parameters.length) = some 3 := ⟨by decide +kernel, by decide +kernel, by decide +kernel⟩
set_option maxHeartbeats 4000000 in
set_option maxRecDepth 100000 in
theorem mX6_on {l : Launch} {D : va_G} {G : Nat → ClassId} {ad : Nat → Nat} (hJ : qInj ad) {w : qMem}   {a1 : Int32} {a2 : Int32} {a3 : Int32} {rF : Int32} {wF : qMem} (hf : fX6_on w a1 a2 a3 = some (rF, wF)) : qCMi l D G ad yX6_on cX6_on 4 (some .int) 4 0 0 [.ref (ad 238), .int a1, .int a2, .int a3] w rF wF := by
  refine q_start RX6 rfl (by decide +kernel) hJ (fun a b h => by simp only [qQI, qQV, qQR, h]) (Nat.le_of_ble_eq_true rfl) ?_
  intro p e s m args below meth c0 ls hC hr hR hl
  have hx := hC.1
  have hb := hC.2.1
  have hl : lv_has ls 4 [(0, .ref (ad 238)), (1, .int a1), (2, .int a2), (3, .int a3)] := hl
  unfold fX6_on at hf
  refine lv_aload_n hx hb dX6_on_0 rfl (lv_at hl 0 rfl) ?_
  refine lv_iload_n hx hb dX6_on_1 rfl (lv_at hl 1 rfl) ?_
  obtain ⟨r2, hq1, hf⟩ := qbd_s hf
  refine q_callSi hC hR (mX6_isStrength (qJ hC) hq1) qk_1278 qk_1279 qk_64 qk_1280 qhd_X6_isStrength ⟨Nat.le_of_ble_eq_true rfl, Nat.le_of_ble_eq_true rfl⟩ hl.1 rfl (Nat.le_of_ble_eq_true rfl) dX6_on_2 ⟨Nat.zero_le _, Nat.zero_le _⟩ (fun H locs hR => ?_)
  refine lv_if_eq (tgt := 19) hx hb dX6_on_5 (by decide) (fun c_3 => ?_) (fun c_3 => ?_)
  · have hf := qif_t hf c_3
    exact mX6_on_L19 hC hr _ _ _ _ _ _ hf hR (lv_sub hl [0, 1, 2] rfl)
  · have hf := qif_f hf c_3
    refine lv_iload_n hx hb dX6_on_8 rfl (lv_at hl 2 rfl) ?_
    obtain ⟨r9, hq8, hf⟩ := qbd_s hf
    refine q_callSi hC hR (mX6_isFloor (qJ hC) hq8) qk_1212 qk_1213 qk_64 qk_1214 qhd_X6_isFloor ⟨Nat.le_of_ble_eq_true rfl, Nat.le_of_ble_eq_true rfl⟩ hl.1 rfl (Nat.le_of_ble_eq_true rfl) dX6_on_9 ⟨Nat.zero_le _, Nat.zero_le _⟩ (fun H locs hR => ?_)
    refine lv_if_eq (tgt := 19) hx hb dX6_on_12 (by decide) (fun c_10 => ?_) (fun c_10 => ?_)
    · have hf := qif_t hf c_10
      exact mX6_on_L19 hC hr _ _ _ _ _ _ hf hR (lv_sub hl [0, 1, 2] rfl)
    · have hf := qif_f hf c_10
      refine lv_iconst (v := 0) hx hb dX6_on_15 (by decide) ?_
      refine lv_goto (tgt := 20) hx hb dX6_on_16 (by decide) ?_
      refine qput_X6_7 hC hR qk_1132 ⟨rfl, rfl⟩ dX6_on_20 (fun w11 H locs ew11 hR => ?_)
      have hf := qnm_t hf ew11
      refine lv_aload_n hx hb dX6_on_23 rfl (lv_at hl 0 rfl) ?_
      refine qget_X6_7 hC hR qk_1132 dX6_on_24 ?_
      refine lv_if_le (tgt := 34) hx hb dX6_on_27 (by decide) (fun c_12 => ?_) (fun c_12 => ?_)
      · have hf := qif_t hf c_12
        refine lv_aload_n hx hb dX6_on_34 rfl (lv_at hl 0 rfl) ?_
        refine lv_iload_n hx hb dX6_on_35 rfl (lv_at hl 1 rfl) ?_
        refine lv_iload_n hx hb dX6_on_36 rfl (lv_at hl 2 rfl) ?_
        obtain ⟨r14, hq13, hf⟩ := qbd_s hf
        refine q_callVi hC hR (mX6_strengthOn (qJ hC) hq13) (by decide) (qsh_238 G ad _) rfl qk_1289 qk_1291 qk_31 qk_64 qk_1292 qhd_X6_strengthOn ⟨Nat.le_of_ble_eq_true rfl, Nat.le_of_ble_eq_true rfl⟩ hl.1 rfl (Nat.le_of_ble_eq_true rfl) dX6_on_37 ⟨Nat.zero_le _, Nat.zero_le _⟩ (fun H locs hR => ?_)
        exact q_iret hC hR hr rfl (qso2 hf).1 (qso2 hf).2 dX6_on_40
      · have hf := qif_f hf c_12
        refine lv_iconst (v := 0) hx hb dX6_on_30 (by decide) ?_
        refine lv_goto (tgt := 40) hx hb dX6_on_31 (by decide) ?_
        exact q_iret hC hR hr rfl (qso2 hf).1 (qso2 hf).2 dX6_on_40
-- X6.thinks
def fX6_thinks (w : qMem)   : Option (qMem) :=
  if qcpy 0 0 99 99 99 = true then
  qnm (qur w 241 (va_cpy (w 239) (w 241) (0 : Int32).toNatClampNeg (0 : Int32).toNatClampNeg (99 : Int32).toNatClampNeg)) fun (w2 : qMem) =>
  some w2
  else none
theorem qhd_X6_thinks : yX6_thinks.cls ≠ "java/lang/invoke/MethodHandle" ∧ yX6_thinks.cls ≠ "java/lang/invoke/VarHandle" ∧ (parseMethodDescriptor yX6_thinks.desc).map (fun d => d.parameters.length) = some 0 := ⟨by decide +kernel, by decide +kernel, by decide +kernel⟩
set_option maxHeartbeats 4000000 in
set_option maxRecDepth 100000 in
theorem mX6_thinks {l : Launch} {D : va_G} {G : Nat → ClassId} {ad : Nat → Nat} (hJ : qInj ad) {w : qMem}    {wF : qMem} (hf : fX6_thinks w = some wF) : qCMv l D G ad yX6_thinks cX6_thinks 1 (none) 2 0 0 [.ref (ad 238)] w wF := by
  refine q_start RX6 rfl (by decide +kernel) hJ (fun a b h => by simp only [qQI, qQV, qQR, h]) (Nat.le_of_ble_eq_true rfl) ?_
  intro p e s m args below meth c0 ls hC hr hR hl
  have hx := hC.1
  have hb := hC.2.1
  have hl : lv_has ls 1 [(0, .ref (ad 238))] := hl
  unfold fX6_thinks at hf
  refine lv_aload_n hx hb dX6_thinks_0 rfl (lv_at hl 0 rfl) ?_
  refine qget_X6_0 hC hR qk_1125 dX6_thinks_1 ?_
  refine lv_iconst (v := 0) hx hb dX6_thinks_4 (by decide) ?_
  refine lv_aload_n hx hb dX6_thinks_5 rfl (lv_at hl 0 rfl) ?_
  refine qget_X6_2 hC hR qk_1127 dX6_thinks_6 ?_
  refine lv_iconst (v := 0) hx hb dX6_thinks_9 (by decide) ?_
  refine lv_bipush (v := 99) hx hb dX6_thinks_10 (by decide) ?_
  obtain ⟨g1, hf⟩ := qgd hf
  refine q_copy hC hR (by decide) (by decide) (fun f => qsh_239 G ad f) (fun f => qsh_241 G ad f) g1 hl.1 qk_1205 dX6_thinks_12 (Nat.le_of_ble_eq_true rfl) (Nat.le_of_ble_eq_true rfl) (fun w2 H locs ew2 hR => ?_)
  have hf := qnm_t hf ew2
  exact q_vret hC hR hr (qso hf) dX6_thinks_15
-- X6.forgets
def fX6_forgets (w : qMem)   : Option (qMem) :=
  if qcpy 0 0 99 99 99 = true then
  qnm (qur w 239 (va_cpy (w 241) (w 239) (0 : Int32).toNatClampNeg (0 : Int32).toNatClampNeg (99 : Int32).toNatClampNeg)) fun (w2 : qMem) =>
  some w2
  else none
theorem qhd_X6_forgets : yX6_forgets.cls ≠ "java/lang/invoke/MethodHandle" ∧ yX6_forgets.cls ≠ "java/lang/invoke/VarHandle" ∧ (parseMethodDescriptor yX6_forgets.desc).map (fun d => d.parameters.length) = some 0 := ⟨by decide +kernel, by decide +kernel, by decide +kernel⟩
set_option maxHeartbeats 4000000 in
set_option maxRecDepth 100000 in
theorem mX6_forgets {l : Launch} {D : va_G} {G : Nat → ClassId} {ad : Nat → Nat} (hJ : qInj ad) {w : qMem}    {wF : qMem} (hf : fX6_forgets w = some wF) : qCMv l D G ad yX6_forgets cX6_forgets 1 (none) 2 0 0 [.ref (ad 238)] w wF := by
  refine q_start RX6 rfl (by decide +kernel) hJ (fun a b h => by simp only [qQI, qQV, qQR, h]) (Nat.le_of_ble_eq_true rfl) ?_
  intro p e s m args below meth c0 ls hC hr hR hl
  have hx := hC.1
  have hb := hC.2.1
  have hl : lv_has ls 1 [(0, .ref (ad 238))] := hl
  unfold fX6_forgets at hf
  refine lv_aload_n hx hb dX6_forgets_0 rfl (lv_at hl 0 rfl) ?_
  refine qget_X6_2 hC hR qk_1127 dX6_forgets_1 ?_
  refine lv_iconst (v := 0) hx hb dX6_forgets_4 (by decide) ?_
  refine lv_aload_n hx hb dX6_forgets_5 rfl (lv_at hl 0 rfl) ?_
  refine qget_X6_0 hC hR qk_1125 dX6_forgets_6 ?_
  refine lv_iconst (v := 0) hx hb dX6_forgets_9 (by decide) ?_
  refine lv_bipush (v := 99) hx hb dX6_forgets_10 (by decide) ?_
  obtain ⟨g1, hf⟩ := qgd hf
  refine q_copy hC hR (by decide) (by decide) (fun f => qsh_241 G ad f) (fun f => qsh_239 G ad f) g1 hl.1 qk_1205 dX6_forgets_12 (Nat.le_of_ble_eq_true rfl) (Nat.le_of_ble_eq_true rfl) (fun w2 H locs ew2 hR => ?_)
  have hf := qnm_t hf ew2
  exact q_vret hC hR hr (qso hf) dX6_forgets_15
-- X6.would
def fX6_would (w : qMem)  (a1 : Int32) (a2 : Int32) : Option (Int32 × qMem) :=
  qbd (fX6_thinks w) fun (w2 : qMem) =>
  qbd2 (fX6_shocks w2 a1) fun (r4 : Int32) (w5 : qMem) =>
  qbd (fX6_forgets w5) fun (w7 : qMem) =>
  if a2 = 0 then
    some (w7 238 11, w7)
  else
    some (r4, w7)
theorem qhd_X6_would : yX6_would.cls ≠ "java/lang/invoke/MethodHandle" ∧ yX6_would.cls ≠ "java/lang/invoke/VarHandle" ∧ (parseMethodDescriptor yX6_would.desc).map (fun d => d.parameters.length) = some 2 := ⟨by decide +kernel, by decide +kernel, by decide +kernel⟩
set_option maxHeartbeats 4000000 in
set_option maxRecDepth 100000 in
theorem mX6_would {l : Launch} {D : va_G} {G : Nat → ClassId} {ad : Nat → Nat} (hJ : qInj ad) {w : qMem}   {a1 : Int32} {a2 : Int32} {rF : Int32} {wF : qMem} (hf : fX6_would w a1 a2 = some (rF, wF)) : qCMi l D G ad yX6_would cX6_would 4 (some .int) 5 0 0 [.ref (ad 238), .int a1, .int a2] w rF wF := by
  refine q_start RX6 rfl (by decide +kernel) hJ (fun a b h => by simp only [qQI, qQV, qQR, h]) (Nat.le_of_ble_eq_true rfl) ?_
  intro p e s m args below meth c0 ls hC hr hR hl
  have hx := hC.1
  have hb := hC.2.1
  have hl : lv_has ls 4 [(0, .ref (ad 238)), (1, .int a1), (2, .int a2)] := hl
  unfold fX6_would at hf
  refine lv_aload_n hx hb dX6_would_0 rfl (lv_at hl 0 rfl) ?_
  obtain ⟨w2, hq1, hf⟩ := qbd_s hf
  refine q_callVv hC hR (mX6_thinks (qJ hC) hq1) (by decide) (qsh_238 G ad _) rfl qk_1357 qk_1359 qk_40 qk_64 qk_1360 qhd_X6_thinks ⟨Nat.le_of_ble_eq_true rfl, Nat.le_of_ble_eq_true rfl⟩ hl.1 rfl (Nat.le_of_ble_eq_true rfl) dX6_would_1 ⟨Nat.zero_le _, Nat.zero_le _⟩ (fun H locs hR => ?_)
  refine lv_aload_n hx hb dX6_would_4 rfl (lv_at hl 0 rfl) ?_
  refine lv_iload_n hx hb dX6_would_5 rfl (lv_at hl 1 rfl) ?_
  obtain ⟨r4, w5, hq3, hf⟩ := qbd2_s hf
  refine q_callVi hC hR (mX6_shocks (qJ hC) hq3) (by decide) (qsh_238 G ad _) rfl qk_1285 qk_1287 qk_30 qk_64 qk_1288 qhd_X6_shocks ⟨Nat.le_of_ble_eq_true rfl, Nat.le_of_ble_eq_true rfl⟩ hl.1 rfl (Nat.le_of_ble_eq_true rfl) dX6_would_6 ⟨Nat.zero_le _, Nat.zero_le _⟩ (fun H locs hR => ?_)
  refine lv_istore_n (lv' := [(3, .int r4), (0, .ref (ad 238)), (1, .int a1), (2, .int a2)]) hx hb dX6_would_9 rfl hl (by decide) rfl (fun ls hl => ?_)
  refine lv_aload_n hx hb dX6_would_10 rfl (lv_at hl 1 rfl) ?_
  obtain ⟨w7, hq6, hf⟩ := qbd_s hf
  refine q_callVv hC hR (mX6_forgets (qJ hC) hq6) (by decide) (qsh_238 G ad _) rfl qk_1361 qk_1363 qk_41 qk_64 qk_1364 qhd_X6_forgets ⟨Nat.le_of_ble_eq_true rfl, Nat.le_of_ble_eq_true rfl⟩ hl.1 rfl (Nat.le_of_ble_eq_true rfl) dX6_would_11 ⟨Nat.zero_le _, Nat.zero_le _⟩ (fun H locs hR => ?_)
  refine lv_iload_n hx hb dX6_would_14 rfl (lv_at hl 3 rfl) ?_
  refine lv_if_eq (tgt := 22) hx hb dX6_would_15 (by decide) (fun c_8 => ?_) (fun c_8 => ?_)
  · have hf := qif_t hf c_8
    refine lv_aload_n hx hb dX6_would_22 rfl (lv_at hl 1 rfl) ?_
    refine qget_X6_11 hC hR qk_1136 dX6_would_23 ?_
    exact q_iret hC hR hr rfl (qso2 hf).1 (qso2 hf).2 dX6_would_26
  · have hf := qif_f hf c_8
    refine lv_iload_n hx hb dX6_would_18 rfl (lv_at hl 0 rfl) ?_
    refine lv_goto (tgt := 26) hx hb dX6_would_19 (by decide) ?_
    exact q_iret hC hR hr rfl (qso2 hf).1 (qso2 hf).2 dX6_would_26
-- X6.wouldMark
def fX6_wouldMark (w : qMem)  (a1 : Int32) : Option (Int32 × qMem) :=
  qbd (fX6_isStrength w a1) fun (r2 : Int32) =>
  if r2 = 0 then
    qnm (quw w 238 7 1) fun (w4 : qMem) =>
    if w4 238 7 ≤ 0 then
      qbd2 (fX6_would w4 a1 1) fun (r7 : Int32) (w8 : qMem) =>
      some (r7, w8)
    else
      some (0, w4)
  else
    qnm (quw w 238 7 0) fun (w9 : qMem) =>
    if w9 238 7 ≤ 0 then
      qbd2 (fX6_would w9 a1 1) fun (r12 : Int32) (w13 : qMem) =>
      some (r12, w13)
    else
      some (0, w9)
theorem qhd_X6_wouldMark : yX6_wouldMark.cls ≠ "java/lang/invoke/MethodHandle" ∧ yX6_wouldMark.cls ≠ "java/lang/invoke/VarHandle" ∧ (parseMethodDescriptor yX6_wouldMark.desc).map (fun d => d.parameters.length) = some 1 := ⟨by decide +kernel, by decide +kernel, by decide +kernel⟩
set_option maxHeartbeats 4000000 in
set_option maxRecDepth 100000 in
theorem mX6_wouldMark {l : Launch} {D : va_G} {G : Nat → ClassId} {ad : Nat → Nat} (hJ : qInj ad) {w : qMem}   {a1 : Int32} {rF : Int32} {wF : qMem} (hf : fX6_wouldMark w a1 = some (rF, wF)) : qCMi l D G ad yX6_wouldMark cX6_wouldMark 2 (some .int) 6 0 0 [.ref (ad 238), .int a1] w rF wF := by
  refine q_start RX6 rfl (by decide +kernel) hJ (fun a b h => by simp only [qQI, qQV, qQR, h]) (Nat.le_of_ble_eq_true rfl) ?_
  intro p e s m args below meth c0 ls hC hr hR hl
  have hx := hC.1
  have hb := hC.2.1
  have hl : lv_has ls 2 [(0, .ref (ad 238)), (1, .int a1)] := hl
  unfold fX6_wouldMark at hf
  refine lv_aload_n hx hb dX6_wouldMark_0 rfl (lv_at hl 0 rfl) ?_
  refine lv_iload_n hx hb dX6_wouldMark_1 rfl (lv_at hl 1 rfl) ?_
  obtain ⟨r2, hq1, hf⟩ := qbd_s hf
  refine q_callSi hC hR (mX6_isStrength (qJ hC) hq1) qk_1278 qk_1279 qk_64 qk_1280 qhd_X6_isStrength ⟨Nat.le_of_ble_eq_true rfl, Nat.le_of_ble_eq_true rfl⟩ hl.1 rfl (Nat.le_of_ble_eq_true rfl) dX6_wouldMark_2 ⟨Nat.zero_le _, Nat.zero_le _⟩ (fun H locs hR => ?_)
  refine lv_if_eq (tgt := 12) hx hb dX6_wouldMark_5 (by decide) (fun c_3 => ?_) (fun c_3 => ?_)
  · have hf := qif_t hf c_3
    refine lv_iconst (v := 1) hx hb dX6_wouldMark_12 (by decide) ?_
    refine qput_X6_7 hC hR qk_1132 ⟨rfl, rfl⟩ dX6_wouldMark_13 (fun w4 H locs ew4 hR => ?_)
    have hf := qnm_t hf ew4
    refine lv_aload_n hx hb dX6_wouldMark_16 rfl (lv_at hl 0 rfl) ?_
    refine qget_X6_7 hC hR qk_1132 dX6_wouldMark_17 ?_
    refine lv_if_le (tgt := 27) hx hb dX6_wouldMark_20 (by decide) (fun c_5 => ?_) (fun c_5 => ?_)
    · have hf := qif_t hf c_5
      refine lv_aload_n hx hb dX6_wouldMark_27 rfl (lv_at hl 0 rfl) ?_
      refine lv_iload_n hx hb dX6_wouldMark_28 rfl (lv_at hl 1 rfl) ?_
      refine lv_iconst (v := 1) hx hb dX6_wouldMark_29 (by decide) ?_
      obtain ⟨r7, w8, hq6, hf⟩ := qbd2_s hf
      refine q_callVi hC hR (mX6_would (qJ hC) hq6) (by decide) (qsh_238 G ad _) rfl qk_1353 qk_1355 qk_39 qk_64 qk_1356 qhd_X6_would ⟨Nat.le_of_ble_eq_true rfl, Nat.le_of_ble_eq_true rfl⟩ hl.1 rfl (Nat.le_of_ble_eq_true rfl) dX6_wouldMark_30 ⟨Nat.zero_le _, Nat.zero_le _⟩ (fun H locs hR => ?_)
      exact q_iret hC hR hr rfl (qso2 hf).1 (qso2 hf).2 dX6_wouldMark_33
    · have hf := qif_f hf c_5
      refine lv_iconst (v := 0) hx hb dX6_wouldMark_23 (by decide) ?_
      refine lv_goto (tgt := 33) hx hb dX6_wouldMark_24 (by decide) ?_
      exact q_iret hC hR hr rfl (qso2 hf).1 (qso2 hf).2 dX6_wouldMark_33
  · have hf := qif_f hf c_3
    refine lv_iconst (v := 0) hx hb dX6_wouldMark_8 (by decide) ?_
    refine lv_goto (tgt := 13) hx hb dX6_wouldMark_9 (by decide) ?_
    refine qput_X6_7 hC hR qk_1132 ⟨rfl, rfl⟩ dX6_wouldMark_13 (fun w9 H locs ew9 hR => ?_)
    have hf := qnm_t hf ew9
    refine lv_aload_n hx hb dX6_wouldMark_16 rfl (lv_at hl 0 rfl) ?_
    refine qget_X6_7 hC hR qk_1132 dX6_wouldMark_17 ?_
    refine lv_if_le (tgt := 27) hx hb dX6_wouldMark_20 (by decide) (fun c_10 => ?_) (fun c_10 => ?_)
    · have hf := qif_t hf c_10
      refine lv_aload_n hx hb dX6_wouldMark_27 rfl (lv_at hl 0 rfl) ?_
      refine lv_iload_n hx hb dX6_wouldMark_28 rfl (lv_at hl 1 rfl) ?_
      refine lv_iconst (v := 1) hx hb dX6_wouldMark_29 (by decide) ?_
      obtain ⟨r12, w13, hq11, hf⟩ := qbd2_s hf
      refine q_callVi hC hR (mX6_would (qJ hC) hq11) (by decide) (qsh_238 G ad _) rfl qk_1353 qk_1355 qk_39 qk_64 qk_1356 qhd_X6_would ⟨Nat.le_of_ble_eq_true rfl, Nat.le_of_ble_eq_true rfl⟩ hl.1 rfl (Nat.le_of_ble_eq_true rfl) dX6_wouldMark_30 ⟨Nat.zero_le _, Nat.zero_le _⟩ (fun H locs hR => ?_)
      exact q_iret hC hR hr rfl (qso2 hf).1 (qso2 hf).2 dX6_wouldMark_33
    · have hf := qif_f hf c_10
      refine lv_iconst (v := 0) hx hb dX6_wouldMark_23 (by decide) ?_
      refine lv_goto (tgt := 33) hx hb dX6_wouldMark_24 (by decide) ?_
      exact q_iret hC hR hr rfl (qso2 hf).1 (qso2 hf).2 dX6_wouldMark_33
-- X6.wouldBreak
def fX6_wouldBreak (w : qMem)  (a1 : Int32) (a2 : Int32) : Option (Int32 × qMem) :=
  qbd (fX6_isStrength w a1) fun (r2 : Int32) =>
  if r2 = 0 then
    qnm (quw w 238 7 1) fun (w4 : qMem) =>
    if w4 238 7 ≤ 0 then
      qbd2 (fX6_would w4 a1 0) fun (r7 : Int32) (w8 : qMem) =>
      some (r7, w8)
    else
      some (0, w4)
  else
    qnm (quw w 238 7 0) fun (w9 : qMem) =>
    if w9 238 7 ≤ 0 then
      qbd2 (fX6_would w9 a1 0) fun (r12 : Int32) (w13 : qMem) =>
      some (r12, w13)
    else
      some (0, w9)
theorem qhd_X6_wouldBreak : yX6_wouldBreak.cls ≠ "java/lang/invoke/MethodHandle" ∧ yX6_wouldBreak.cls ≠ "java/lang/invoke/VarHandle" ∧ (parseMethodDescriptor yX6_wouldBreak.desc).map (fun d => d.parameters.length) = some 2 := ⟨by decide +kernel, by decide +kernel, by decide +kernel⟩
set_option maxHeartbeats 4000000 in
set_option maxRecDepth 100000 in
theorem mX6_wouldBreak {l : Launch} {D : va_G} {G : Nat → ClassId} {ad : Nat → Nat} (hJ : qInj ad) {w : qMem}   {a1 : Int32} {a2 : Int32} {rF : Int32} {wF : qMem} (hf : fX6_wouldBreak w a1 a2 = some (rF, wF)) : qCMi l D G ad yX6_wouldBreak cX6_wouldBreak 3 (some .int) 6 0 0 [.ref (ad 238), .int a1, .int a2] w rF wF := by
  refine q_start RX6 rfl (by decide +kernel) hJ (fun a b h => by simp only [qQI, qQV, qQR, h]) (Nat.le_of_ble_eq_true rfl) ?_
  intro p e s m args below meth c0 ls hC hr hR hl
  have hx := hC.1
  have hb := hC.2.1
  have hl : lv_has ls 3 [(0, .ref (ad 238)), (1, .int a1), (2, .int a2)] := hl
  unfold fX6_wouldBreak at hf
  refine lv_aload_n hx hb dX6_wouldBreak_0 rfl (lv_at hl 0 rfl) ?_
  refine lv_iload_n hx hb dX6_wouldBreak_1 rfl (lv_at hl 1 rfl) ?_
  obtain ⟨r2, hq1, hf⟩ := qbd_s hf
  refine q_callSi hC hR (mX6_isStrength (qJ hC) hq1) qk_1278 qk_1279 qk_64 qk_1280 qhd_X6_isStrength ⟨Nat.le_of_ble_eq_true rfl, Nat.le_of_ble_eq_true rfl⟩ hl.1 rfl (Nat.le_of_ble_eq_true rfl) dX6_wouldBreak_2 ⟨Nat.zero_le _, Nat.zero_le _⟩ (fun H locs hR => ?_)
  refine lv_if_eq (tgt := 12) hx hb dX6_wouldBreak_5 (by decide) (fun c_3 => ?_) (fun c_3 => ?_)
  · have hf := qif_t hf c_3
    refine lv_iconst (v := 1) hx hb dX6_wouldBreak_12 (by decide) ?_
    refine qput_X6_7 hC hR qk_1132 ⟨rfl, rfl⟩ dX6_wouldBreak_13 (fun w4 H locs ew4 hR => ?_)
    have hf := qnm_t hf ew4
    refine lv_aload_n hx hb dX6_wouldBreak_16 rfl (lv_at hl 0 rfl) ?_
    refine qget_X6_7 hC hR qk_1132 dX6_wouldBreak_17 ?_
    refine lv_if_le (tgt := 27) hx hb dX6_wouldBreak_20 (by decide) (fun c_5 => ?_) (fun c_5 => ?_)
    · have hf := qif_t hf c_5
      refine lv_aload_n hx hb dX6_wouldBreak_27 rfl (lv_at hl 0 rfl) ?_
      refine lv_iload_n hx hb dX6_wouldBreak_28 rfl (lv_at hl 1 rfl) ?_
      refine lv_iconst (v := 0) hx hb dX6_wouldBreak_29 (by decide) ?_
      obtain ⟨r7, w8, hq6, hf⟩ := qbd2_s hf
      refine q_callVi hC hR (mX6_would (qJ hC) hq6) (by decide) (qsh_238 G ad _) rfl qk_1353 qk_1355 qk_39 qk_64 qk_1356 qhd_X6_would ⟨Nat.le_of_ble_eq_true rfl, Nat.le_of_ble_eq_true rfl⟩ hl.1 rfl (Nat.le_of_ble_eq_true rfl) dX6_wouldBreak_30 ⟨Nat.zero_le _, Nat.zero_le _⟩ (fun H locs hR => ?_)
      exact q_iret hC hR hr rfl (qso2 hf).1 (qso2 hf).2 dX6_wouldBreak_33
    · have hf := qif_f hf c_5
      refine lv_iconst (v := 0) hx hb dX6_wouldBreak_23 (by decide) ?_
      refine lv_goto (tgt := 33) hx hb dX6_wouldBreak_24 (by decide) ?_
      exact q_iret hC hR hr rfl (qso2 hf).1 (qso2 hf).2 dX6_wouldBreak_33
  · have hf := qif_f hf c_3
    refine lv_iconst (v := 0) hx hb dX6_wouldBreak_8 (by decide) ?_
    refine lv_goto (tgt := 13) hx hb dX6_wouldBreak_9 (by decide) ?_
    refine qput_X6_7 hC hR qk_1132 ⟨rfl, rfl⟩ dX6_wouldBreak_13 (fun w9 H locs ew9 hR => ?_)
    have hf := qnm_t hf ew9
    refine lv_aload_n hx hb dX6_wouldBreak_16 rfl (lv_at hl 0 rfl) ?_
    refine qget_X6_7 hC hR qk_1132 dX6_wouldBreak_17 ?_
    refine lv_if_le (tgt := 27) hx hb dX6_wouldBreak_20 (by decide) (fun c_10 => ?_) (fun c_10 => ?_)
    · have hf := qif_t hf c_10
      refine lv_aload_n hx hb dX6_wouldBreak_27 rfl (lv_at hl 0 rfl) ?_
      refine lv_iload_n hx hb dX6_wouldBreak_28 rfl (lv_at hl 1 rfl) ?_
      refine lv_iconst (v := 0) hx hb dX6_wouldBreak_29 (by decide) ?_
      obtain ⟨r12, w13, hq11, hf⟩ := qbd2_s hf
      refine q_callVi hC hR (mX6_would (qJ hC) hq11) (by decide) (qsh_238 G ad _) rfl qk_1353 qk_1355 qk_39 qk_64 qk_1356 qhd_X6_would ⟨Nat.le_of_ble_eq_true rfl, Nat.le_of_ble_eq_true rfl⟩ hl.1 rfl (Nat.le_of_ble_eq_true rfl) dX6_wouldBreak_30 ⟨Nat.zero_le _, Nat.zero_le _⟩ (fun H locs hR => ?_)
      exact q_iret hC hR hr rfl (qso2 hf).1 (qso2 hf).2 dX6_wouldBreak_33
    · have hf := qif_f hf c_10
      refine lv_iconst (v := 0) hx hb dX6_wouldBreak_23 (by decide) ?_
      refine lv_goto (tgt := 33) hx hb dX6_wouldBreak_24 (by decide) ?_
      exact q_iret hC hR hr rfl (qso2 hf).1 (qso2 hf).2 dX6_wouldBreak_33
-- X6.programmeBreaks
def fX6_programmeBreaks (w : qMem)   : Option (Int32 × qMem) :=
  qnm (quw w 238 7 0) fun (w1 : qMem) =>
  if w1 239 6 = 0 then
    some (0, w1)
  else
    qbd (fX6_thinks w1) fun (w4 : qMem) =>
    qnm (w4 239 5) fun (x5 : Int32) =>
    qbd2 (fX6_doPerform w4) fun (r7 : Int32) (w8 : qMem) =>
    qnm ((w8 239 5) - x5) fun (x9 : Int32) =>
    qbd (fX6_forgets w8) fun (w11 : qMem) =>
    some (x9, w11)
theorem qhd_X6_programmeBreaks : yX6_programmeBreaks.cls ≠ "java/lang/invoke/MethodHandle" ∧ yX6_programmeBreaks.cls ≠ "java/lang/invoke/VarHandle" ∧ (parseMethodDescriptor yX6_programmeBreaks.desc).map (fun d => d.parameters.length) = some 0 := ⟨by decide +kernel, by decide +kernel, by decide +kernel⟩
set_option maxHeartbeats 4000000 in
set_option maxRecDepth 100000 in
theorem mX6_programmeBreaks {l : Launch} {D : va_G} {G : Nat → ClassId} {ad : Nat → Nat} (hJ : qInj ad) {w : qMem}    {rF : Int32} {wF : qMem} (hf : fX6_programmeBreaks w = some (rF, wF)) : qCMi l D G ad yX6_programmeBreaks cX6_programmeBreaks 4 (some .int) 6 0 0 [.ref (ad 238)] w rF wF := by
  refine q_start RX6 rfl (by decide +kernel) hJ (fun a b h => by simp only [qQI, qQV, qQR, h]) (Nat.le_of_ble_eq_true rfl) ?_
  intro p e s m args below meth c0 ls hC hr hR hl
  have hx := hC.1
  have hb := hC.2.1
  have hl : lv_has ls 4 [(0, .ref (ad 238))] := hl
  unfold fX6_programmeBreaks at hf
  refine lv_aload_n hx hb dX6_programmeBreaks_0 rfl (lv_at hl 0 rfl) ?_
  refine lv_iconst (v := 0) hx hb dX6_programmeBreaks_1 (by decide) ?_
  refine qput_X6_7 hC hR qk_1132 ⟨rfl, rfl⟩ dX6_programmeBreaks_2 (fun w1 H locs ew1 hR => ?_)
  have hf := qnm_t hf ew1
  refine lv_aload_n hx hb dX6_programmeBreaks_5 rfl (lv_at hl 0 rfl) ?_
  refine qget_X6_0 hC hR qk_1125 dX6_programmeBreaks_6 ?_
  refine lv_bipush (v := 6) hx hb dX6_programmeBreaks_9 (by decide) ?_
  refine q_ild hC hR (j := 6) (by decide) (qsh_239 G ad _) (by decide) (by decide) dX6_programmeBreaks_11 ?_
  refine lv_if_ne (tgt := 17) hx hb dX6_programmeBreaks_12 (by decide) (fun c_2 => ?_) (fun c_2 => ?_)
  · have hf := qif_f hf c_2
    refine lv_aload_n hx hb dX6_programmeBreaks_17 rfl (lv_at hl 0 rfl) ?_
    obtain ⟨w4, hq3, hf⟩ := qbd_s hf
    refine q_callVv hC hR (mX6_thinks (qJ hC) hq3) (by decide) (qsh_238 G ad _) rfl qk_1357 qk_1359 qk_40 qk_64 qk_1360 qhd_X6_thinks ⟨Nat.le_of_ble_eq_true rfl, Nat.le_of_ble_eq_true rfl⟩ hl.1 rfl (Nat.le_of_ble_eq_true rfl) dX6_programmeBreaks_18 ⟨Nat.zero_le _, Nat.zero_le _⟩ (fun H locs hR => ?_)
    refine lv_aload_n hx hb dX6_programmeBreaks_21 rfl (lv_at hl 0 rfl) ?_
    refine qget_X6_0 hC hR qk_1125 dX6_programmeBreaks_22 ?_
    refine lv_iconst (v := 5) hx hb dX6_programmeBreaks_25 (by decide) ?_
    refine q_ild hC hR (j := 5) (by decide) (qsh_239 G ad _) (by decide) (by decide) dX6_programmeBreaks_26 ?_
    refine lv_topi (fun x5 ex5 => ?_)
    have hf := qnm_t hf ex5
    refine lv_istore_n (lv' := [(1, .int x5), (0, .ref (ad 238))]) hx hb dX6_programmeBreaks_27 rfl hl (by decide) rfl (fun ls hl => ?_)
    refine lv_aload_n hx hb dX6_programmeBreaks_28 rfl (lv_at hl 1 rfl) ?_
    obtain ⟨r7, w8, hq6, hf⟩ := qbd2_s hf
    refine q_callVi hC hR (mX6_doPerform (qJ hC) hq6) (by decide) (qsh_238 G ad _) rfl qk_1321 qk_1323 qk_36 qk_64 qk_1324 qhd_X6_doPerform ⟨Nat.le_of_ble_eq_true rfl, Nat.le_of_ble_eq_true rfl⟩ hl.1 rfl (Nat.le_of_ble_eq_true rfl) dX6_programmeBreaks_29 ⟨Nat.zero_le _, Nat.zero_le _⟩ (fun H locs hR => ?_)
    refine lv_istore_n (lv' := [(2, .int r7), (1, .int x5), (0, .ref (ad 238))]) hx hb dX6_programmeBreaks_32 rfl hl (by decide) rfl (fun ls hl => ?_)
    refine lv_aload_n hx hb dX6_programmeBreaks_33 rfl (lv_at hl 2 rfl) ?_
    refine qget_X6_0 hC hR qk_1125 dX6_programmeBreaks_34 ?_
    refine lv_iconst (v := 5) hx hb dX6_programmeBreaks_37 (by decide) ?_
    refine q_ild hC hR (j := 5) (by decide) (qsh_239 G ad _) (by decide) (by decide) dX6_programmeBreaks_38 ?_
    refine lv_iload_n hx hb dX6_programmeBreaks_39 rfl (lv_at hl 1 rfl) ?_
    refine lv_isub hx hb dX6_programmeBreaks_40 ?_
    refine lv_topi (fun x9 ex9 => ?_)
    have hf := qnm_t hf ex9
    refine lv_istore_n (lv' := [(3, .int x9), (2, .int r7), (1, .int x5), (0, .ref (ad 238))]) hx hb dX6_programmeBreaks_41 rfl hl (by decide) rfl (fun ls hl => ?_)
    refine lv_aload_n hx hb dX6_programmeBreaks_42 rfl (lv_at hl 3 rfl) ?_
    obtain ⟨w11, hq10, hf⟩ := qbd_s hf
    refine q_callVv hC hR (mX6_forgets (qJ hC) hq10) (by decide) (qsh_238 G ad _) rfl qk_1361 qk_1363 qk_41 qk_64 qk_1364 qhd_X6_forgets ⟨Nat.le_of_ble_eq_true rfl, Nat.le_of_ble_eq_true rfl⟩ hl.1 rfl (Nat.le_of_ble_eq_true rfl) dX6_programmeBreaks_43 ⟨Nat.zero_le _, Nat.zero_le _⟩ (fun H locs hR => ?_)
    refine lv_iload_n hx hb dX6_programmeBreaks_46 rfl (lv_at hl 0 rfl) ?_
    exact q_iret hC hR hr rfl (qso2 hf).1 (qso2 hf).2 dX6_programmeBreaks_47
  · have hf := qif_t hf c_2
    refine lv_iconst (v := 0) hx hb dX6_programmeBreaks_15 (by decide) ?_
    exact q_iret hC hR hr rfl (qso2 hf).1 (qso2 hf).2 dX6_programmeBreaks_16
-- X6.best
def fX6_best_L9   : Nat → qMem → Int32 → Int32 → Option (Int32 × qMem)
  | 0, _, _, _ => none
  | n + 1, w, x1, x2 =>
    if (9 : Int32) < x2 then
      some (x1, w)
    else
      qbd2 (fX6_would w x2 1) fun (r4 : Int32) (w5 : qMem) =>
      qbd2 (fX6_would w5 x1 1) fun (r7 : Int32) (w8 : qMem) =>
      if r4 ≤ r7 then
        qnm (x2 + 1) fun (x10 : Int32) =>
        fX6_best_L9 n w8 x1 x10
      else
        qnm (x2 + 1) fun (x11 : Int32) =>
        fX6_best_L9 n w8 x2 x11
set_option maxHeartbeats 4000000 in
set_option maxRecDepth 100000 in
theorem mX6_best_L9 {p : Program} {l : Launch} {e : Env} {s : State} {m : MethodId} {args : Array Value} {below : List Frame} {meth : Method} {c0 : Code} {D : va_G} {G : Nat → ClassId} {ad : Nat → Nat}   {rF : Int32} {wF : qMem}  (hC : qCx p c0 cX6_best 3 s m args meth RX6 D G ad) (hr : meth.sig.returnType = some .int)  : ∀ (n : Nat), ∀ (w : qMem) (x1 : Int32) (x2 : Int32) (H : Heap) (locs : List Loc) (ls : Array Slot), fX6_best_L9 n w x1 x2 = some (rF, wF) → qRp D G ad s w H locs → lv_has ls 3 [(0, .ref (ad 238)), (1, .int x1), (2, .int x2)] → W p l e (qrm 6 0 0) s m args below meth c0 H locs 0 0 (MQ below (qQI D G ad s wF rF) args s 0 0 (qAdr ad s.heap.size)) (F0 m 9 ls []) := by
  have hx := hC.1
  have hb := hC.2.1
  intro n
  induction n with
  | zero => intro w x1 x2 H locs ls hf; exact nomatch (show (none : Option (Int32 × qMem)) = some _ from hf)
  | succ n ih =>
    intro w x1 x2 H locs ls hf hR hl
    rw [fX6_best_L9] at hf
    refine lv_iload_n hx hb dX6_best_9 rfl (lv_at hl 2 rfl) ?_
    refine lv_bipush (v := 9) hx hb dX6_best_10 (by decide) ?_
    refine lv_icmp_gt (tgt := 42) hx hb dX6_best_12 (by decide) (fun c_2 => ?_) (fun c_2 => ?_)
    · have hf := qif_t hf c_2
      refine lv_iload_n hx hb dX6_best_42 rfl (lv_at hl 1 rfl) ?_
      exact q_iret hC hR hr rfl (qso2 hf).1 (qso2 hf).2 dX6_best_43
    · have hf := qif_f hf c_2
      refine lv_aload_n hx hb dX6_best_15 rfl (lv_at hl 0 rfl) ?_
      refine lv_iload_n hx hb dX6_best_16 rfl (lv_at hl 2 rfl) ?_
      refine lv_iconst (v := 1) hx hb dX6_best_17 (by decide) ?_
      obtain ⟨r4, w5, hq3, hf⟩ := qbd2_s hf
      refine q_callVi hC hR (mX6_would (qJ hC) hq3) (by decide) (qsh_238 G ad _) rfl qk_1353 qk_1355 qk_39 qk_64 qk_1356 qhd_X6_would ⟨Nat.le_of_ble_eq_true rfl, Nat.le_of_ble_eq_true rfl⟩ hl.1 rfl (Nat.le_of_ble_eq_true rfl) dX6_best_18 ⟨Nat.zero_le _, Nat.zero_le _⟩ (fun H locs hR => ?_)
      refine lv_aload_n hx hb dX6_best_21 rfl (lv_at hl 0 rfl) ?_
      refine lv_iload_n hx hb dX6_best_22 rfl (lv_at hl 1 rfl) ?_
      refine lv_iconst (v := 1) hx hb dX6_best_23 (by decide) ?_
      obtain ⟨r7, w8, hq6, hf⟩ := qbd2_s hf
      refine q_callVi hC hR (mX6_would (qJ hC) hq6) (by decide) (qsh_238 G ad _) rfl qk_1353 qk_1355 qk_39 qk_64 qk_1356 qhd_X6_would ⟨Nat.le_of_ble_eq_true rfl, Nat.le_of_ble_eq_true rfl⟩ hl.1 rfl (Nat.le_of_ble_eq_true rfl) dX6_best_24 ⟨Nat.zero_le _, Nat.zero_le _⟩ (fun H locs hR => ?_)
      refine lv_icmp_le (tgt := 34) hx hb dX6_best_27 (by decide) (fun c_9 => ?_) (fun c_9 => ?_)
      · have hf := qif_t hf c_9
        refine lv_iload_n hx hb dX6_best_34 rfl (lv_at hl 1 rfl) ?_
        refine lv_istore_n (lv' := [(1, .int x1), (0, .ref (ad 238)), (2, .int x2)]) hx hb dX6_best_35 rfl hl (by decide) rfl (fun ls hl => ?_)
        obtain ⟨x10, ex10⟩ : ∃ y : Int32, y = x2 + 1 := ⟨_, rfl⟩
        have hf := qnm_t hf ex10
        refine lv_iinc (v := x10) (lv' := [(2, .int x10), (1, .int x1), (0, .ref (ad 238))]) hx hb dX6_best_36 hl (k := 2) rfl (by rw [ex10]; rfl) (by decide) rfl (fun ls hl => ?_)
        refine lv_goto (tgt := 9) hx hb dX6_best_39 (by decide) ?_
        exact ih _ _ _ _ _ _ hf hR (lv_sub hl [2, 1, 0] rfl)
      · have hf := qif_f hf c_9
        refine lv_iload_n hx hb dX6_best_30 rfl (lv_at hl 2 rfl) ?_
        refine lv_goto (tgt := 35) hx hb dX6_best_31 (by decide) ?_
        refine lv_istore_n (lv' := [(1, .int x2), (0, .ref (ad 238)), (2, .int x2)]) hx hb dX6_best_35 rfl hl (by decide) rfl (fun ls hl => ?_)
        obtain ⟨x11, ex11⟩ : ∃ y : Int32, y = x2 + 1 := ⟨_, rfl⟩
        have hf := qnm_t hf ex11
        refine lv_iinc (v := x11) (lv' := [(2, .int x11), (1, .int x2), (0, .ref (ad 238))]) hx hb dX6_best_36 hl (k := 2) rfl (by rw [ex11]; rfl) (by decide) rfl (fun ls hl => ?_)
        refine lv_goto (tgt := 9) hx hb dX6_best_39 (by decide) ?_
        exact ih _ _ _ _ _ _ hf hR (lv_sub hl [2, 1, 0] rfl)
def fX6_best (w : qMem)   : Option (Int32 × qMem) :=
  qnm (quw w 238 7 0) fun (w1 : qMem) =>
  fX6_best_L9 100 w1 1 2
theorem qhd_X6_best : yX6_best.cls ≠ "java/lang/invoke/MethodHandle" ∧ yX6_best.cls ≠ "java/lang/invoke/VarHandle" ∧ (parseMethodDescriptor yX6_best.desc).map (fun d => d.parameters.length) = some 0 := ⟨by decide +kernel, by decide +kernel, by decide +kernel⟩
set_option maxHeartbeats 4000000 in
set_option maxRecDepth 100000 in
theorem mX6_best {l : Launch} {D : va_G} {G : Nat → ClassId} {ad : Nat → Nat} (hJ : qInj ad) {w : qMem}    {rF : Int32} {wF : qMem} (hf : fX6_best w = some (rF, wF)) : qCMi l D G ad yX6_best cX6_best 3 (some .int) 6 0 0 [.ref (ad 238)] w rF wF := by
  refine q_start RX6 rfl (by decide +kernel) hJ (fun a b h => by simp only [qQI, qQV, qQR, h]) (Nat.le_of_ble_eq_true rfl) ?_
  intro p e s m args below meth c0 ls hC hr hR hl
  have hx := hC.1
  have hb := hC.2.1
  have hl : lv_has ls 3 [(0, .ref (ad 238))] := hl
  unfold fX6_best at hf
  refine lv_aload_n hx hb dX6_best_0 rfl (lv_at hl 0 rfl) ?_
  refine lv_iconst (v := 0) hx hb dX6_best_1 (by decide) ?_
  refine qput_X6_7 hC hR qk_1132 ⟨rfl, rfl⟩ dX6_best_2 (fun w1 H locs ew1 hR => ?_)
  have hf := qnm_t hf ew1
  refine lv_iconst (v := 1) hx hb dX6_best_5 (by decide) ?_
  refine lv_istore_n (lv' := [(1, .int 1), (0, .ref (ad 238))]) hx hb dX6_best_6 rfl hl (by decide) rfl (fun ls hl => ?_)
  refine lv_iconst (v := 2) hx hb dX6_best_7 (by decide) ?_
  refine lv_istore_n (lv' := [(2, .int 2), (1, .int 1), (0, .ref (ad 238))]) hx hb dX6_best_8 rfl hl (by decide) rfl (fun ls hl => ?_)
  exact mX6_best_L9 hC hr 100 _ _ _ _ _ _ hf hR (lv_sub hl [2, 1, 0] rfl)
-- X6.leastBreaking
def fX6_leastBreaking_L2   : Nat → qMem → Int32 → Option (Int32 × qMem)
  | 0, _, _ => none
  | n + 1, w, x1 =>
    if (9 : Int32) < x1 then
      qbd2 (fX6_fails w 1) fun (r3 : Int32) (w4 : qMem) =>
      some (r3, w4)
    else
      qbd2 (fX6_would w x1 0) fun (r6 : Int32) (w7 : qMem) =>
      if r6 ≤ 0 then
        qnm (x1 + 1) fun (x9 : Int32) =>
        fX6_leastBreaking_L2 n w7 x9
      else
        qnm (quw w7 238 7 0) fun (w10 : qMem) =>
        some (x1, w10)
set_option maxHeartbeats 4000000 in
set_option maxRecDepth 100000 in
theorem mX6_leastBreaking_L2 {p : Program} {l : Launch} {e : Env} {s : State} {m : MethodId} {args : Array Value} {below : List Frame} {meth : Method} {c0 : Code} {D : va_G} {G : Nat → ClassId} {ad : Nat → Nat}   {rF : Int32} {wF : qMem}  (hC : qCx p c0 cX6_leastBreaking 2 s m args meth RX6 D G ad) (hr : meth.sig.returnType = some .int)  : ∀ (n : Nat), ∀ (w : qMem) (x1 : Int32) (H : Heap) (locs : List Loc) (ls : Array Slot), fX6_leastBreaking_L2 n w x1 = some (rF, wF) → qRp D G ad s w H locs → lv_has ls 2 [(0, .ref (ad 238)), (1, .int x1)] → W p l e (qrm 6 0 0) s m args below meth c0 H locs 0 0 (MQ below (qQI D G ad s wF rF) args s 0 0 (qAdr ad s.heap.size)) (F0 m 2 ls []) := by
  have hx := hC.1
  have hb := hC.2.1
  intro n
  induction n with
  | zero => intro w x1 H locs ls hf; exact nomatch (show (none : Option (Int32 × qMem)) = some _ from hf)
  | succ n ih =>
    intro w x1 H locs ls hf hR hl
    rw [fX6_leastBreaking_L2] at hf
    refine lv_iload_n hx hb dX6_leastBreaking_2 rfl (lv_at hl 1 rfl) ?_
    refine lv_bipush (v := 9) hx hb dX6_leastBreaking_3 (by decide) ?_
    refine lv_icmp_gt (tgt := 30) hx hb dX6_leastBreaking_5 (by decide) (fun c_1 => ?_) (fun c_1 => ?_)
    · have hf := qif_t hf c_1
      refine lv_aload_n hx hb dX6_leastBreaking_30 rfl (lv_at hl 0 rfl) ?_
      refine lv_iconst (v := 1) hx hb dX6_leastBreaking_31 (by decide) ?_
      obtain ⟨r3, w4, hq2, hf⟩ := qbd2_s hf
      refine q_callVi hC hR (mX6_fails (qJ hC) hq2) (by decide) (qsh_238 G ad _) rfl qk_1218 qk_1220 qk_20 qk_64 qk_1221 qhd_X6_fails ⟨Nat.le_of_ble_eq_true rfl, Nat.le_of_ble_eq_true rfl⟩ hl.1 rfl (Nat.le_of_ble_eq_true rfl) dX6_leastBreaking_32 ⟨Nat.zero_le _, Nat.zero_le _⟩ (fun H locs hR => ?_)
      exact q_iret hC hR hr rfl (qso2 hf).1 (qso2 hf).2 dX6_leastBreaking_35
    · have hf := qif_f hf c_1
      refine lv_aload_n hx hb dX6_leastBreaking_8 rfl (lv_at hl 0 rfl) ?_
      refine lv_iload_n hx hb dX6_leastBreaking_9 rfl (lv_at hl 1 rfl) ?_
      refine lv_iconst (v := 0) hx hb dX6_leastBreaking_10 (by decide) ?_
      obtain ⟨r6, w7, hq5, hf⟩ := qbd2_s hf
      refine q_callVi hC hR (mX6_would (qJ hC) hq5) (by decide) (qsh_238 G ad _) rfl qk_1353 qk_1355 qk_39 qk_64 qk_1356 qhd_X6_would ⟨Nat.le_of_ble_eq_true rfl, Nat.le_of_ble_eq_true rfl⟩ hl.1 rfl (Nat.le_of_ble_eq_true rfl) dX6_leastBreaking_11 ⟨Nat.zero_le _, Nat.zero_le _⟩ (fun H locs hR => ?_)
      refine lv_if_le (tgt := 24) hx hb dX6_leastBreaking_14 (by decide) (fun c_8 => ?_) (fun c_8 => ?_)
      · have hf := qif_t hf c_8
        obtain ⟨x9, ex9⟩ : ∃ y : Int32, y = x1 + 1 := ⟨_, rfl⟩
        have hf := qnm_t hf ex9
        refine lv_iinc (v := x9) (lv' := [(1, .int x9), (0, .ref (ad 238))]) hx hb dX6_leastBreaking_24 hl (k := 1) rfl (by rw [ex9]; rfl) (by decide) rfl (fun ls hl => ?_)
        refine lv_goto (tgt := 2) hx hb dX6_leastBreaking_27 (by decide) ?_
        exact ih _ _ _ _ _ hf hR (lv_sub hl [1, 0] rfl)
      · have hf := qif_f hf c_8
        refine lv_aload_n hx hb dX6_leastBreaking_17 rfl (lv_at hl 0 rfl) ?_
        refine lv_iconst (v := 0) hx hb dX6_leastBreaking_18 (by decide) ?_
        refine qput_X6_7 hC hR qk_1132 ⟨rfl, rfl⟩ dX6_leastBreaking_19 (fun w10 H locs ew10 hR => ?_)
        have hf := qnm_t hf ew10
        refine lv_iload_n hx hb dX6_leastBreaking_22 rfl (lv_at hl 1 rfl) ?_
        exact q_iret hC hR hr rfl (qso2 hf).1 (qso2 hf).2 dX6_leastBreaking_23
def fX6_leastBreaking (w : qMem)   : Option (Int32 × qMem) :=
  fX6_leastBreaking_L2 100 w 1
theorem qhd_X6_leastBreaking : yX6_leastBreaking.cls ≠ "java/lang/invoke/MethodHandle" ∧ yX6_leastBreaking.cls ≠ "java/lang/invoke/VarHandle" ∧ (parseMethodDescriptor yX6_leastBreaking.desc).map (fun d => d.parameters.length) = some 0 := ⟨by decide +kernel, by decide +kernel, by decide +kernel⟩
set_option maxHeartbeats 4000000 in
set_option maxRecDepth 100000 in
theorem mX6_leastBreaking {l : Launch} {D : va_G} {G : Nat → ClassId} {ad : Nat → Nat} (hJ : qInj ad) {w : qMem}    {rF : Int32} {wF : qMem} (hf : fX6_leastBreaking w = some (rF, wF)) : qCMi l D G ad yX6_leastBreaking cX6_leastBreaking 2 (some .int) 6 0 0 [.ref (ad 238)] w rF wF := by
  refine q_start RX6 rfl (by decide +kernel) hJ (fun a b h => by simp only [qQI, qQV, qQR, h]) (Nat.le_of_ble_eq_true rfl) ?_
  intro p e s m args below meth c0 ls hC hr hR hl
  have hx := hC.1
  have hb := hC.2.1
  have hl : lv_has ls 2 [(0, .ref (ad 238))] := hl
  unfold fX6_leastBreaking at hf
  refine lv_iconst (v := 1) hx hb dX6_leastBreaking_0 (by decide) ?_
  refine lv_istore_n (lv' := [(1, .int 1), (0, .ref (ad 238))]) hx hb dX6_leastBreaking_1 rfl hl (by decide) rfl (fun ls hl => ?_)
  exact mX6_leastBreaking_L2 hC hr 100 _ _ _ _ _ hf hR (lv_sub hl [1, 0] rfl)
-- X6.shocksFor
def fX6_shocksFor_L74   (w : qMem) (x1 : Int32) (x2 : Int32) : Option (Int32 × qMem) :=
  qbd (fX6_of w x1 4) fun (r13 : Int32) =>
  if r13 = 1 then
    qbd (fX6_forgets w) fun (w19 : qMem) =>
    if (1 : Int32) = 0 then
      some (0, w19)
    else
      some (x2, w19)
  else
    qbd (fX6_forgets w) fun (w16 : qMem) =>
    if (0 : Int32) = 0 then
      some (0, w16)
    else
      some (x2, w16)
set_option maxHeartbeats 4000000 in
set_option maxRecDepth 100000 in
theorem mX6_shocksFor_L74 {p : Program} {l : Launch} {e : Env} {s : State} {m : MethodId} {args : Array Value} {below : List Frame} {meth : Method} {c0 : Code} {D : va_G} {G : Nat → ClassId} {ad : Nat → Nat}   {rF : Int32} {wF : qMem}  (hC : qCx p c0 cX6_shocksFor 4 s m args meth RX6 D G ad) (hr : meth.sig.returnType = some .int)  : ∀ (w : qMem) (x1 : Int32) (x2 : Int32) (H : Heap) (locs : List Loc) (ls : Array Slot), fX6_shocksFor_L74 w x1 x2 = some (rF, wF) → qRp D G ad s w H locs → lv_has ls 4 [(0, .ref (ad 238)), (1, .int x1), (2, .int x2)] → W p l e (qrm 5 0 0) s m args below meth c0 H locs 0 0 (MQ below (qQI D G ad s wF rF) args s 0 0 (qAdr ad s.heap.size)) (F0 m 74 ls []) := by
  have hx := hC.1
  have hb := hC.2.1
  intro w x1 x2 H locs ls hf hR hl
  unfold fX6_shocksFor_L74 at hf
  refine lv_aload_n hx hb dX6_shocksFor_74 rfl (lv_at hl 0 rfl) ?_
  refine lv_iload_n hx hb dX6_shocksFor_75 rfl (lv_at hl 1 rfl) ?_
  refine lv_iconst (v := 4) hx hb dX6_shocksFor_76 (by decide) ?_
  obtain ⟨r13, hq12, hf⟩ := qbd_s hf
  refine q_callVi hC hR (mX6_of (qJ hC) hq12) (by decide) (qsh_238 G ad _) rfl qk_1230 qk_1232 qk_23 qk_64 qk_1233 qhd_X6_of ⟨Nat.le_of_ble_eq_true rfl, Nat.le_of_ble_eq_true rfl⟩ hl.1 rfl (Nat.le_of_ble_eq_true rfl) dX6_shocksFor_77 ⟨Nat.zero_le _, Nat.zero_le _⟩ (fun H locs hR => ?_)
  refine lv_iconst (v := 1) hx hb dX6_shocksFor_80 (by decide) ?_
  refine lv_icmp_ne (tgt := 88) hx hb dX6_shocksFor_81 (by decide) (fun c_14 => ?_) (fun c_14 => ?_)
  · have hf := qif_f hf c_14
    refine lv_iconst (v := 0) hx hb dX6_shocksFor_88 (by decide) ?_
    refine lv_istore_n (lv' := [(3, .int 0), (0, .ref (ad 238)), (1, .int x1), (2, .int x2)]) hx hb dX6_shocksFor_89 rfl hl (by decide) rfl (fun ls hl => ?_)
    refine lv_aload_n hx hb dX6_shocksFor_90 rfl (lv_at hl 1 rfl) ?_
    obtain ⟨w16, hq15, hf⟩ := qbd_s hf
    refine q_callVv hC hR (mX6_forgets (qJ hC) hq15) (by decide) (qsh_238 G ad _) rfl qk_1361 qk_1363 qk_41 qk_64 qk_1364 qhd_X6_forgets ⟨Nat.le_of_ble_eq_true rfl, Nat.le_of_ble_eq_true rfl⟩ hl.1 rfl (Nat.le_of_ble_eq_true rfl) dX6_shocksFor_91 ⟨Nat.zero_le _, Nat.zero_le _⟩ (fun H locs hR => ?_)
    refine lv_iload_n hx hb dX6_shocksFor_94 rfl (lv_at hl 0 rfl) ?_
    refine lv_if_eq (tgt := 102) hx hb dX6_shocksFor_95 (by decide) (fun c_17 => ?_) (fun c_17 => ?_)
    · have hf := qif_t hf c_17
      refine lv_iconst (v := 0) hx hb dX6_shocksFor_102 (by decide) ?_
      exact q_iret hC hR hr rfl (qso2 hf).1 (qso2 hf).2 dX6_shocksFor_103
    · have hf := qif_f hf c_17
      refine lv_iload_n hx hb dX6_shocksFor_98 rfl (lv_at hl 3 rfl) ?_
      refine lv_goto (tgt := 103) hx hb dX6_shocksFor_99 (by decide) ?_
      exact q_iret hC hR hr rfl (qso2 hf).1 (qso2 hf).2 dX6_shocksFor_103
  · have hf := qif_t hf c_14
    refine lv_iconst (v := 1) hx hb dX6_shocksFor_84 (by decide) ?_
    refine lv_goto (tgt := 89) hx hb dX6_shocksFor_85 (by decide) ?_
    refine lv_istore_n (lv' := [(3, .int 1), (0, .ref (ad 238)), (1, .int x1), (2, .int x2)]) hx hb dX6_shocksFor_89 rfl hl (by decide) rfl (fun ls hl => ?_)
    refine lv_aload_n hx hb dX6_shocksFor_90 rfl (lv_at hl 1 rfl) ?_
    obtain ⟨w19, hq18, hf⟩ := qbd_s hf
    refine q_callVv hC hR (mX6_forgets (qJ hC) hq18) (by decide) (qsh_238 G ad _) rfl qk_1361 qk_1363 qk_41 qk_64 qk_1364 qhd_X6_forgets ⟨Nat.le_of_ble_eq_true rfl, Nat.le_of_ble_eq_true rfl⟩ hl.1 rfl (Nat.le_of_ble_eq_true rfl) dX6_shocksFor_91 ⟨Nat.zero_le _, Nat.zero_le _⟩ (fun H locs hR => ?_)
    refine lv_iload_n hx hb dX6_shocksFor_94 rfl (lv_at hl 0 rfl) ?_
    refine lv_if_eq (tgt := 102) hx hb dX6_shocksFor_95 (by decide) (fun c_20 => ?_) (fun c_20 => ?_)
    · have hf := qif_t hf c_20
      refine lv_iconst (v := 0) hx hb dX6_shocksFor_102 (by decide) ?_
      exact q_iret hC hR hr rfl (qso2 hf).1 (qso2 hf).2 dX6_shocksFor_103
    · have hf := qif_f hf c_20
      refine lv_iload_n hx hb dX6_shocksFor_98 rfl (lv_at hl 3 rfl) ?_
      refine lv_goto (tgt := 103) hx hb dX6_shocksFor_99 (by decide) ?_
      exact q_iret hC hR hr rfl (qso2 hf).1 (qso2 hf).2 dX6_shocksFor_103
def fX6_shocksFor_L42   : Nat → qMem → Int32 → Int32 → Option (Int32 × qMem)
  | 0, _, _, _ => none
  | n + 1, w, x1, x2 =>
    if (30 : Int32) ≤ x2 then
      fX6_shocksFor_L74 w x1 x2
    else
      qbd (fX6_of w x1 4) fun (r22 : Int32) =>
      if r22 = 0 then
        qbd2 (fX6_shocks w (w 239 1)) fun (r25 : Int32) (w26 : qMem) =>
        qnm (x2 + 1) fun (x27 : Int32) =>
        fX6_shocksFor_L42 n w26 x1 x27
      else
        fX6_shocksFor_L74 w x1 x2
set_option maxHeartbeats 4000000 in
set_option maxRecDepth 100000 in
theorem mX6_shocksFor_L42 {p : Program} {l : Launch} {e : Env} {s : State} {m : MethodId} {args : Array Value} {below : List Frame} {meth : Method} {c0 : Code} {D : va_G} {G : Nat → ClassId} {ad : Nat → Nat}   {rF : Int32} {wF : qMem}  (hC : qCx p c0 cX6_shocksFor 4 s m args meth RX6 D G ad) (hr : meth.sig.returnType = some .int)  : ∀ (n : Nat), ∀ (w : qMem) (x1 : Int32) (x2 : Int32) (H : Heap) (locs : List Loc) (ls : Array Slot), fX6_shocksFor_L42 n w x1 x2 = some (rF, wF) → qRp D G ad s w H locs → lv_has ls 4 [(0, .ref (ad 238)), (1, .int x1), (2, .int x2)] → W p l e (qrm 5 0 0) s m args below meth c0 H locs 0 0 (MQ below (qQI D G ad s wF rF) args s 0 0 (qAdr ad s.heap.size)) (F0 m 42 ls []) := by
  have hx := hC.1
  have hb := hC.2.1
  intro n
  induction n with
  | zero => intro w x1 x2 H locs ls hf; exact nomatch (show (none : Option (Int32 × qMem)) = some _ from hf)
  | succ n ih =>
    intro w x1 x2 H locs ls hf hR hl
    rw [fX6_shocksFor_L42] at hf
    refine lv_iload_n hx hb dX6_shocksFor_42 rfl (lv_at hl 2 rfl) ?_
    refine lv_bipush (v := 30) hx hb dX6_shocksFor_43 (by decide) ?_
    refine lv_icmp_ge (tgt := 74) hx hb dX6_shocksFor_45 (by decide) (fun c_11 => ?_) (fun c_11 => ?_)
    · have hf := qif_t hf c_11
      exact mX6_shocksFor_L74 hC hr _ _ _ _ _ _ hf hR (lv_sub hl [0, 1, 2] rfl)
    · have hf := qif_f hf c_11
      refine lv_aload_n hx hb dX6_shocksFor_48 rfl (lv_at hl 0 rfl) ?_
      refine lv_iload_n hx hb dX6_shocksFor_49 rfl (lv_at hl 1 rfl) ?_
      refine lv_iconst (v := 4) hx hb dX6_shocksFor_50 (by decide) ?_
      obtain ⟨r22, hq21, hf⟩ := qbd_s hf
      refine q_callVi hC hR (mX6_of (qJ hC) hq21) (by decide) (qsh_238 G ad _) rfl qk_1230 qk_1232 qk_23 qk_64 qk_1233 qhd_X6_of ⟨Nat.le_of_ble_eq_true rfl, Nat.le_of_ble_eq_true rfl⟩ hl.1 rfl (Nat.le_of_ble_eq_true rfl) dX6_shocksFor_51 ⟨Nat.zero_le _, Nat.zero_le _⟩ (fun H locs hR => ?_)
      refine lv_if_ne (tgt := 74) hx hb dX6_shocksFor_54 (by decide) (fun c_23 => ?_) (fun c_23 => ?_)
      · have hf := qif_f hf c_23
        exact mX6_shocksFor_L74 hC hr _ _ _ _ _ _ hf hR (lv_sub hl [0, 1, 2] rfl)
      · have hf := qif_t hf c_23
        refine lv_aload_n hx hb dX6_shocksFor_57 rfl (lv_at hl 0 rfl) ?_
        refine lv_aload_n hx hb dX6_shocksFor_58 rfl (lv_at hl 0 rfl) ?_
        refine qget_X6_0 hC hR qk_1125 dX6_shocksFor_59 ?_
        refine lv_iconst (v := 1) hx hb dX6_shocksFor_62 (by decide) ?_
        refine q_ild hC hR (j := 1) (by decide) (qsh_239 G ad _) (by decide) (by decide) dX6_shocksFor_63 ?_
        obtain ⟨r25, w26, hq24, hf⟩ := qbd2_s hf
        refine q_callVi hC hR (mX6_shocks (qJ hC) hq24) (by decide) (qsh_238 G ad _) rfl qk_1285 qk_1287 qk_30 qk_64 qk_1288 qhd_X6_shocks ⟨Nat.le_of_ble_eq_true rfl, Nat.le_of_ble_eq_true rfl⟩ hl.1 rfl (Nat.le_of_ble_eq_true rfl) dX6_shocksFor_64 ⟨Nat.zero_le _, Nat.zero_le _⟩ (fun H locs hR => ?_)
        refine lv_istore_n (lv' := [(3, .int r25), (0, .ref (ad 238)), (1, .int x1), (2, .int x2)]) hx hb dX6_shocksFor_67 rfl hl (by decide) rfl (fun ls hl => ?_)
        obtain ⟨x27, ex27⟩ : ∃ y : Int32, y = x2 + 1 := ⟨_, rfl⟩
        have hf := qnm_t hf ex27
        refine lv_iinc (v := x27) (lv' := [(2, .int x27), (3, .int r25), (0, .ref (ad 238)), (1, .int x1)]) hx hb dX6_shocksFor_68 hl (k := 3) rfl (by rw [ex27]; rfl) (by decide) rfl (fun ls hl => ?_)
        refine lv_goto (tgt := 42) hx hb dX6_shocksFor_71 (by decide) ?_
        exact ih _ _ _ _ _ _ hf hR (lv_sub hl [2, 3, 0] rfl)
def fX6_shocksFor_L14   (w : qMem) (x1 : Int32) (s0 : Int32) : Option (Int32 × qMem) :=
  qnm (quw w 238 7 s0) fun (w4 : qMem) =>
  if 0 < w4 238 7 then
    some (0, w4)
  else
    qbd (fX6_of w4 x1 4) fun (r7 : Int32) =>
    if r7 = 1 then
      some (0, w4)
    else
      qbd (fX6_thinks w4) fun (w10 : qMem) =>
      fX6_shocksFor_L42 100 w10 x1 0
set_option maxHeartbeats 4000000 in
set_option maxRecDepth 100000 in
theorem mX6_shocksFor_L14 {p : Program} {l : Launch} {e : Env} {s : State} {m : MethodId} {args : Array Value} {below : List Frame} {meth : Method} {c0 : Code} {D : va_G} {G : Nat → ClassId} {ad : Nat → Nat}   {rF : Int32} {wF : qMem}  (hC : qCx p c0 cX6_shocksFor 4 s m args meth RX6 D G ad) (hr : meth.sig.returnType = some .int)  : ∀ (w : qMem) (x1 : Int32) (s0 : Int32) (H : Heap) (locs : List Loc) (ls : Array Slot), fX6_shocksFor_L14 w x1 s0 = some (rF, wF) → qRp D G ad s w H locs → lv_has ls 4 [(0, .ref (ad 238)), (1, .int x1)] → W p l e (qrm 5 0 0) s m args below meth c0 H locs 0 0 (MQ below (qQI D G ad s wF rF) args s 0 0 (qAdr ad s.heap.size)) (F0 m 14 ls [.int s0, .ref (ad 238)]) := by
  have hx := hC.1
  have hb := hC.2.1
  intro w x1 s0 H locs ls hf hR hl
  unfold fX6_shocksFor_L14 at hf
  refine qput_X6_7 hC hR qk_1132 ⟨rfl, rfl⟩ dX6_shocksFor_14 (fun w4 H locs ew4 hR => ?_)
  have hf := qnm_t hf ew4
  refine lv_aload_n hx hb dX6_shocksFor_17 rfl (lv_at hl 0 rfl) ?_
  refine qget_X6_7 hC hR qk_1132 dX6_shocksFor_18 ?_
  refine lv_if_gt (tgt := 34) hx hb dX6_shocksFor_21 (by decide) (fun c_5 => ?_) (fun c_5 => ?_)
  · have hf := qif_t hf c_5
    refine lv_iconst (v := 0) hx hb dX6_shocksFor_34 (by decide) ?_
    exact q_iret hC hR hr rfl (qso2 hf).1 (qso2 hf).2 dX6_shocksFor_35
  · have hf := qif_f hf c_5
    refine lv_aload_n hx hb dX6_shocksFor_24 rfl (lv_at hl 0 rfl) ?_
    refine lv_iload_n hx hb dX6_shocksFor_25 rfl (lv_at hl 1 rfl) ?_
    refine lv_iconst (v := 4) hx hb dX6_shocksFor_26 (by decide) ?_
    obtain ⟨r7, hq6, hf⟩ := qbd_s hf
    refine q_callVi hC hR (mX6_of (qJ hC) hq6) (by decide) (qsh_238 G ad _) rfl qk_1230 qk_1232 qk_23 qk_64 qk_1233 qhd_X6_of ⟨Nat.le_of_ble_eq_true rfl, Nat.le_of_ble_eq_true rfl⟩ hl.1 rfl (Nat.le_of_ble_eq_true rfl) dX6_shocksFor_27 ⟨Nat.zero_le _, Nat.zero_le _⟩ (fun H locs hR => ?_)
    refine lv_iconst (v := 1) hx hb dX6_shocksFor_30 (by decide) ?_
    refine lv_icmp_ne (tgt := 36) hx hb dX6_shocksFor_31 (by decide) (fun c_8 => ?_) (fun c_8 => ?_)
    · have hf := qif_f hf c_8
      refine lv_aload_n hx hb dX6_shocksFor_36 rfl (lv_at hl 0 rfl) ?_
      obtain ⟨w10, hq9, hf⟩ := qbd_s hf
      refine q_callVv hC hR (mX6_thinks (qJ hC) hq9) (by decide) (qsh_238 G ad _) rfl qk_1357 qk_1359 qk_40 qk_64 qk_1360 qhd_X6_thinks ⟨Nat.le_of_ble_eq_true rfl, Nat.le_of_ble_eq_true rfl⟩ hl.1 rfl (Nat.le_of_ble_eq_true rfl) dX6_shocksFor_37 ⟨Nat.zero_le _, Nat.zero_le _⟩ (fun H locs hR => ?_)
      refine lv_iconst (v := 0) hx hb dX6_shocksFor_40 (by decide) ?_
      refine lv_istore_n (lv' := [(2, .int 0), (0, .ref (ad 238)), (1, .int x1)]) hx hb dX6_shocksFor_41 rfl hl (by decide) rfl (fun ls hl => ?_)
      exact mX6_shocksFor_L42 hC hr 100 _ _ _ _ _ _ hf hR (lv_sub hl [1, 2, 0] rfl)
    · have hf := qif_t hf c_8
      refine lv_iconst (v := 0) hx hb dX6_shocksFor_34 (by decide) ?_
      exact q_iret hC hR hr rfl (qso2 hf).1 (qso2 hf).2 dX6_shocksFor_35
def fX6_shocksFor (w : qMem)  (a1 : Int32) : Option (Int32 × qMem) :=
  qbd (fX6_isProp w a1) fun (r2 : Int32) =>
  if r2 = 0 then
    fX6_shocksFor_L14 w a1 1
  else
    fX6_shocksFor_L14 w a1 0
theorem qhd_X6_shocksFor : yX6_shocksFor.cls ≠ "java/lang/invoke/MethodHandle" ∧ yX6_shocksFor.cls ≠ "java/lang/invoke/VarHandle" ∧ (parseMethodDescriptor yX6_shocksFor.desc).map (fun d => d.parameters.length) = some 1 := ⟨by decide +kernel, by decide +kernel, by decide +kernel⟩
set_option maxHeartbeats 4000000 in
set_option maxRecDepth 100000 in
theorem mX6_shocksFor {l : Launch} {D : va_G} {G : Nat → ClassId} {ad : Nat → Nat} (hJ : qInj ad) {w : qMem}   {a1 : Int32} {rF : Int32} {wF : qMem} (hf : fX6_shocksFor w a1 = some (rF, wF)) : qCMi l D G ad yX6_shocksFor cX6_shocksFor 4 (some .int) 5 0 0 [.ref (ad 238), .int a1] w rF wF := by
  refine q_start RX6 rfl (by decide +kernel) hJ (fun a b h => by simp only [qQI, qQV, qQR, h]) (Nat.le_of_ble_eq_true rfl) ?_
  intro p e s m args below meth c0 ls hC hr hR hl
  have hx := hC.1
  have hb := hC.2.1
  have hl : lv_has ls 4 [(0, .ref (ad 238)), (1, .int a1)] := hl
  unfold fX6_shocksFor at hf
  refine lv_aload_n hx hb dX6_shocksFor_0 rfl (lv_at hl 0 rfl) ?_
  refine lv_aload_n hx hb dX6_shocksFor_1 rfl (lv_at hl 0 rfl) ?_
  refine lv_iload_n hx hb dX6_shocksFor_2 rfl (lv_at hl 1 rfl) ?_
  obtain ⟨r2, hq1, hf⟩ := qbd_s hf
  refine q_callVi hC hR (mX6_isProp (qJ hC) hq1) (by decide) (qsh_238 G ad _) rfl qk_1258 qk_1260 qk_27 qk_64 qk_1261 qhd_X6_isProp ⟨Nat.le_of_ble_eq_true rfl, Nat.le_of_ble_eq_true rfl⟩ hl.1 rfl (Nat.le_of_ble_eq_true rfl) dX6_shocksFor_3 ⟨Nat.zero_le _, Nat.zero_le _⟩ (fun H locs hR => ?_)
  refine lv_if_eq (tgt := 13) hx hb dX6_shocksFor_6 (by decide) (fun c_3 => ?_) (fun c_3 => ?_)
  · have hf := qif_t hf c_3
    refine lv_iconst (v := 1) hx hb dX6_shocksFor_13 (by decide) ?_
    exact mX6_shocksFor_L14 hC hr _ _ _ _ _ _ hf hR (lv_sub hl [0, 1] rfl)
  · have hf := qif_f hf c_3
    refine lv_iconst (v := 0) hx hb dX6_shocksFor_9 (by decide) ?_
    refine lv_goto (tgt := 14) hx hb dX6_shocksFor_10 (by decide) ?_
    exact mX6_shocksFor_L14 hC hr _ _ _ _ _ _ hf hR (lv_sub hl [0, 1] rfl)
-- X6.isBroken
def fX6_isBroken_L14   (w : qMem) (x1 : Int32) (s0 : Int32) : Option (Int32 × qMem) :=
  qnm (quw w 238 7 s0) fun (w4 : qMem) =>
  if w4 238 7 = 0 then
    qbd (fX6_of w4 x1 4) fun (r7 : Int32) =>
    if r7 = 1 then
      some (1, w4)
    else
      some (0, w4)
  else
    some (0, w4)
set_option maxHeartbeats 4000000 in
set_option maxRecDepth 100000 in
theorem mX6_isBroken_L14 {p : Program} {l : Launch} {e : Env} {s : State} {m : MethodId} {args : Array Value} {below : List Frame} {meth : Method} {c0 : Code} {D : va_G} {G : Nat → ClassId} {ad : Nat → Nat}   {rF : Int32} {wF : qMem}  (hC : qCx p c0 cX6_isBroken 2 s m args meth RX6 D G ad) (hr : meth.sig.returnType = some .boolean)  : ∀ (w : qMem) (x1 : Int32) (s0 : Int32) (H : Heap) (locs : List Loc) (ls : Array Slot), fX6_isBroken_L14 w x1 s0 = some (rF, wF) → qRp D G ad s w H locs → lv_has ls 2 [(0, .ref (ad 238)), (1, .int x1)] → W p l e (qrm 3 0 0) s m args below meth c0 H locs 0 0 (MQ below (qQI D G ad s wF rF) args s 0 0 (qAdr ad s.heap.size)) (F0 m 14 ls [.int s0, .ref (ad 238)]) := by
  have hx := hC.1
  have hb := hC.2.1
  intro w x1 s0 H locs ls hf hR hl
  unfold fX6_isBroken_L14 at hf
  refine qput_X6_7 hC hR qk_1132 ⟨rfl, rfl⟩ dX6_isBroken_14 (fun w4 H locs ew4 hR => ?_)
  have hf := qnm_t hf ew4
  refine lv_aload_n hx hb dX6_isBroken_17 rfl (lv_at hl 0 rfl) ?_
  refine qget_X6_7 hC hR qk_1132 dX6_isBroken_18 ?_
  refine lv_if_ne (tgt := 38) hx hb dX6_isBroken_21 (by decide) (fun c_5 => ?_) (fun c_5 => ?_)
  · have hf := qif_f hf c_5
    refine lv_iconst (v := 0) hx hb dX6_isBroken_38 (by decide) ?_
    exact q_iret hC hR hr (by decide) (qso2 hf).1 (qso2 hf).2 dX6_isBroken_39
  · have hf := qif_t hf c_5
    refine lv_aload_n hx hb dX6_isBroken_24 rfl (lv_at hl 0 rfl) ?_
    refine lv_iload_n hx hb dX6_isBroken_25 rfl (lv_at hl 1 rfl) ?_
    refine lv_iconst (v := 4) hx hb dX6_isBroken_26 (by decide) ?_
    obtain ⟨r7, hq6, hf⟩ := qbd_s hf
    refine q_callVi hC hR (mX6_of (qJ hC) hq6) (by decide) (qsh_238 G ad _) rfl qk_1230 qk_1232 qk_23 qk_64 qk_1233 qhd_X6_of ⟨Nat.le_of_ble_eq_true rfl, Nat.le_of_ble_eq_true rfl⟩ hl.1 rfl (Nat.le_of_ble_eq_true rfl) dX6_isBroken_27 ⟨Nat.zero_le _, Nat.zero_le _⟩ (fun H locs hR => ?_)
    refine lv_iconst (v := 1) hx hb dX6_isBroken_30 (by decide) ?_
    refine lv_icmp_ne (tgt := 38) hx hb dX6_isBroken_31 (by decide) (fun c_8 => ?_) (fun c_8 => ?_)
    · have hf := qif_f hf c_8
      refine lv_iconst (v := 0) hx hb dX6_isBroken_38 (by decide) ?_
      exact q_iret hC hR hr (by decide) (qso2 hf).1 (qso2 hf).2 dX6_isBroken_39
    · have hf := qif_t hf c_8
      refine lv_iconst (v := 1) hx hb dX6_isBroken_34 (by decide) ?_
      refine lv_goto (tgt := 39) hx hb dX6_isBroken_35 (by decide) ?_
      exact q_iret hC hR hr (by decide) (qso2 hf).1 (qso2 hf).2 dX6_isBroken_39
def fX6_isBroken (w : qMem)  (a1 : Int32) : Option (Int32 × qMem) :=
  qbd (fX6_isProp w a1) fun (r2 : Int32) =>
  if r2 = 0 then
    fX6_isBroken_L14 w a1 1
  else
    fX6_isBroken_L14 w a1 0
theorem qhd_X6_isBroken : yX6_isBroken.cls ≠ "java/lang/invoke/MethodHandle" ∧ yX6_isBroken.cls ≠ "java/lang/invoke/VarHandle" ∧ (parseMethodDescriptor yX6_isBroken.desc).map (fun d => d.parameters.length) = some 1 := ⟨by decide +kernel, by decide +kernel, by decide +kernel⟩
set_option maxHeartbeats 4000000 in
set_option maxRecDepth 100000 in
theorem mX6_isBroken {l : Launch} {D : va_G} {G : Nat → ClassId} {ad : Nat → Nat} (hJ : qInj ad) {w : qMem}   {a1 : Int32} {rF : Int32} {wF : qMem} (hf : fX6_isBroken w a1 = some (rF, wF)) : qCMi l D G ad yX6_isBroken cX6_isBroken 2 (some .boolean) 3 0 0 [.ref (ad 238), .int a1] w rF wF := by
  refine q_start RX6 rfl (by decide +kernel) hJ (fun a b h => by simp only [qQI, qQV, qQR, h]) (Nat.le_of_ble_eq_true rfl) ?_
  intro p e s m args below meth c0 ls hC hr hR hl
  have hx := hC.1
  have hb := hC.2.1
  have hl : lv_has ls 2 [(0, .ref (ad 238)), (1, .int a1)] := hl
  unfold fX6_isBroken at hf
  refine lv_aload_n hx hb dX6_isBroken_0 rfl (lv_at hl 0 rfl) ?_
  refine lv_aload_n hx hb dX6_isBroken_1 rfl (lv_at hl 0 rfl) ?_
  refine lv_iload_n hx hb dX6_isBroken_2 rfl (lv_at hl 1 rfl) ?_
  obtain ⟨r2, hq1, hf⟩ := qbd_s hf
  refine q_callVi hC hR (mX6_isProp (qJ hC) hq1) (by decide) (qsh_238 G ad _) rfl qk_1258 qk_1260 qk_27 qk_64 qk_1261 qhd_X6_isProp ⟨Nat.le_of_ble_eq_true rfl, Nat.le_of_ble_eq_true rfl⟩ hl.1 rfl (Nat.le_of_ble_eq_true rfl) dX6_isBroken_3 ⟨Nat.zero_le _, Nat.zero_le _⟩ (fun H locs hR => ?_)
  refine lv_if_eq (tgt := 13) hx hb dX6_isBroken_6 (by decide) (fun c_3 => ?_) (fun c_3 => ?_)
  · have hf := qif_t hf c_3
    refine lv_iconst (v := 1) hx hb dX6_isBroken_13 (by decide) ?_
    exact mX6_isBroken_L14 hC hr _ _ _ _ _ _ hf hR (lv_sub hl [0, 1] rfl)
  · have hf := qif_f hf c_3
    refine lv_iconst (v := 0) hx hb dX6_isBroken_9 (by decide) ?_
    refine lv_goto (tgt := 14) hx hb dX6_isBroken_10 (by decide) ?_
    exact mX6_isBroken_L14 hC hr _ _ _ _ _ _ hf hR (lv_sub hl [0, 1] rfl)
-- X6.ahead
def fX6_ahead (w : qMem)  (a1 : Int32) (a2 : Int32) (a3 : Int32) : Option (Int32) :=
  if a3 = 1 then
    qbd (fX6_of w a1 2) fun (r18 : Int32) =>
    qbd (fX6_of w a2 2) fun (r20 : Int32) =>
    qnm (r18 - r20) fun (x21 : Int32) =>
    if x21 = 0 then
      qbd (fX6_of w a2 3) fun (r24 : Int32) =>
      qbd (fX6_of w a1 3) fun (r26 : Int32) =>
      some (r24 - r26)
    else
      some (x21)
  else
    if a3 = 2 then
      qbd (fX6_of w a1 3) fun (r8 : Int32) =>
      qbd (fX6_of w a2 3) fun (r10 : Int32) =>
      qnm (r8 - r10) fun (x11 : Int32) =>
      if x11 = 0 then
        qbd (fX6_of w a1 2) fun (r14 : Int32) =>
        qbd (fX6_of w a2 2) fun (r16 : Int32) =>
        some (r14 - r16)
      else
        some (x11)
    else
      qbd (fX6_of w a1 6) fun (r4 : Int32) =>
      qbd (fX6_of w a2 6) fun (r6 : Int32) =>
      some (r4 - r6)
theorem qhd_X6_ahead : yX6_ahead.cls ≠ "java/lang/invoke/MethodHandle" ∧ yX6_ahead.cls ≠ "java/lang/invoke/VarHandle" ∧ (parseMethodDescriptor yX6_ahead.desc).map (fun d => d.parameters.length) = some 3 := ⟨by decide +kernel, by decide +kernel, by decide +kernel⟩
set_option maxHeartbeats 4000000 in
set_option maxRecDepth 100000 in
theorem mX6_ahead {l : Launch} {D : va_G} {G : Nat → ClassId} {ad : Nat → Nat} (hJ : qInj ad) {w : qMem}   {a1 : Int32} {a2 : Int32} {a3 : Int32} {rF : Int32} (hf : fX6_ahead w a1 a2 a3 = some rF) : qCMi l D G ad yX6_ahead cX6_ahead 5 (some .int) 2 0 0 [.ref (ad 238), .int a1, .int a2, .int a3] w rF w := by
  refine q_start RX6 rfl (by decide +kernel) hJ (fun a b h => by simp only [qQI, qQV, qQR, h]) (Nat.le_of_ble_eq_true rfl) ?_
  intro p e s m args below meth c0 ls hC hr hR hl
  have hx := hC.1
  have hb := hC.2.1
  have hl : lv_has ls 5 [(0, .ref (ad 238)), (1, .int a1), (2, .int a2), (3, .int a3)] := hl
  unfold fX6_ahead at hf
  refine lv_iload_n hx hb dX6_ahead_0 rfl (lv_at hl 3 rfl) ?_
  refine lv_iconst (v := 1) hx hb dX6_ahead_1 (by decide) ?_
  refine lv_icmp_ne (tgt := 44) hx hb dX6_ahead_2 (by decide) (fun c_1 => ?_) (fun c_1 => ?_)
  · have hf := qif_f hf c_1
    refine lv_iload_n hx hb dX6_ahead_44 rfl (lv_at hl 3 rfl) ?_
    refine lv_iconst (v := 2) hx hb dX6_ahead_45 (by decide) ?_
    refine lv_icmp_ne (tgt := 88) hx hb dX6_ahead_46 (by decide) (fun c_2 => ?_) (fun c_2 => ?_)
    · have hf := qif_f hf c_2
      refine lv_aload_n hx hb dX6_ahead_88 rfl (lv_at hl 0 rfl) ?_
      refine lv_iload_n hx hb dX6_ahead_89 rfl (lv_at hl 1 rfl) ?_
      refine lv_bipush (v := 6) hx hb dX6_ahead_90 (by decide) ?_
      obtain ⟨r4, hq3, hf⟩ := qbd_s hf
      refine q_callVi hC hR (mX6_of (qJ hC) hq3) (by decide) (qsh_238 G ad _) rfl qk_1230 qk_1232 qk_23 qk_64 qk_1233 qhd_X6_of ⟨Nat.le_of_ble_eq_true rfl, Nat.le_of_ble_eq_true rfl⟩ hl.1 rfl (Nat.le_of_ble_eq_true rfl) dX6_ahead_92 ⟨Nat.zero_le _, Nat.zero_le _⟩ (fun H locs hR => ?_)
      refine lv_aload_n hx hb dX6_ahead_95 rfl (lv_at hl 0 rfl) ?_
      refine lv_iload_n hx hb dX6_ahead_96 rfl (lv_at hl 2 rfl) ?_
      refine lv_bipush (v := 6) hx hb dX6_ahead_97 (by decide) ?_
      obtain ⟨r6, hq5, hf⟩ := qbd_s hf
      refine q_callVi hC hR (mX6_of (qJ hC) hq5) (by decide) (qsh_238 G ad _) rfl qk_1230 qk_1232 qk_23 qk_64 qk_1233 qhd_X6_of ⟨Nat.le_of_ble_eq_true rfl, Nat.le_of_ble_eq_true rfl⟩ hl.1 rfl (Nat.le_of_ble_eq_true rfl) dX6_ahead_99 ⟨Nat.zero_le _, Nat.zero_le _⟩ (fun H locs hR => ?_)
      refine lv_isub hx hb dX6_ahead_102 ?_
      exact q_iret hC hR hr rfl (qso hf) rfl dX6_ahead_103
    · have hf := qif_t hf c_2
      refine lv_aload_n hx hb dX6_ahead_49 rfl (lv_at hl 0 rfl) ?_
      refine lv_iload_n hx hb dX6_ahead_50 rfl (lv_at hl 1 rfl) ?_
      refine lv_iconst (v := 3) hx hb dX6_ahead_51 (by decide) ?_
      obtain ⟨r8, hq7, hf⟩ := qbd_s hf
      refine q_callVi hC hR (mX6_of (qJ hC) hq7) (by decide) (qsh_238 G ad _) rfl qk_1230 qk_1232 qk_23 qk_64 qk_1233 qhd_X6_of ⟨Nat.le_of_ble_eq_true rfl, Nat.le_of_ble_eq_true rfl⟩ hl.1 rfl (Nat.le_of_ble_eq_true rfl) dX6_ahead_52 ⟨Nat.zero_le _, Nat.zero_le _⟩ (fun H locs hR => ?_)
      refine lv_aload_n hx hb dX6_ahead_55 rfl (lv_at hl 0 rfl) ?_
      refine lv_iload_n hx hb dX6_ahead_56 rfl (lv_at hl 2 rfl) ?_
      refine lv_iconst (v := 3) hx hb dX6_ahead_57 (by decide) ?_
      obtain ⟨r10, hq9, hf⟩ := qbd_s hf
      refine q_callVi hC hR (mX6_of (qJ hC) hq9) (by decide) (qsh_238 G ad _) rfl qk_1230 qk_1232 qk_23 qk_64 qk_1233 qhd_X6_of ⟨Nat.le_of_ble_eq_true rfl, Nat.le_of_ble_eq_true rfl⟩ hl.1 rfl (Nat.le_of_ble_eq_true rfl) dX6_ahead_58 ⟨Nat.zero_le _, Nat.zero_le _⟩ (fun H locs hR => ?_)
      refine lv_isub hx hb dX6_ahead_61 ?_
      refine lv_topi (fun x11 ex11 => ?_)
      have hf := qnm_t hf ex11
      refine lv_istore (lv' := [(4, .int x11), (0, .ref (ad 238)), (1, .int a1), (2, .int a2), (3, .int a3)]) hx hb dX6_ahead_62 hl (by decide) rfl (fun ls hl => ?_)
      refine lv_iload hx hb dX6_ahead_64 (lv_at hl 0 rfl) ?_
      refine lv_if_eq (tgt := 74) hx hb dX6_ahead_66 (by decide) (fun c_12 => ?_) (fun c_12 => ?_)
      · have hf := qif_t hf c_12
        refine lv_aload_n hx hb dX6_ahead_74 rfl (lv_at hl 1 rfl) ?_
        refine lv_iload_n hx hb dX6_ahead_75 rfl (lv_at hl 2 rfl) ?_
        refine lv_iconst (v := 2) hx hb dX6_ahead_76 (by decide) ?_
        obtain ⟨r14, hq13, hf⟩ := qbd_s hf
        refine q_callVi hC hR (mX6_of (qJ hC) hq13) (by decide) (qsh_238 G ad _) rfl qk_1230 qk_1232 qk_23 qk_64 qk_1233 qhd_X6_of ⟨Nat.le_of_ble_eq_true rfl, Nat.le_of_ble_eq_true rfl⟩ hl.1 rfl (Nat.le_of_ble_eq_true rfl) dX6_ahead_77 ⟨Nat.zero_le _, Nat.zero_le _⟩ (fun H locs hR => ?_)
        refine lv_aload_n hx hb dX6_ahead_80 rfl (lv_at hl 1 rfl) ?_
        refine lv_iload_n hx hb dX6_ahead_81 rfl (lv_at hl 3 rfl) ?_
        refine lv_iconst (v := 2) hx hb dX6_ahead_82 (by decide) ?_
        obtain ⟨r16, hq15, hf⟩ := qbd_s hf
        refine q_callVi hC hR (mX6_of (qJ hC) hq15) (by decide) (qsh_238 G ad _) rfl qk_1230 qk_1232 qk_23 qk_64 qk_1233 qhd_X6_of ⟨Nat.le_of_ble_eq_true rfl, Nat.le_of_ble_eq_true rfl⟩ hl.1 rfl (Nat.le_of_ble_eq_true rfl) dX6_ahead_83 ⟨Nat.zero_le _, Nat.zero_le _⟩ (fun H locs hR => ?_)
        refine lv_isub hx hb dX6_ahead_86 ?_
        exact q_iret hC hR hr rfl (qso hf) rfl dX6_ahead_87
      · have hf := qif_f hf c_12
        refine lv_iload hx hb dX6_ahead_69 (lv_at hl 0 rfl) ?_
        refine lv_goto (tgt := 87) hx hb dX6_ahead_71 (by decide) ?_
        exact q_iret hC hR hr rfl (qso hf) rfl dX6_ahead_87
  · have hf := qif_t hf c_1
    refine lv_aload_n hx hb dX6_ahead_5 rfl (lv_at hl 0 rfl) ?_
    refine lv_iload_n hx hb dX6_ahead_6 rfl (lv_at hl 1 rfl) ?_
    refine lv_iconst (v := 2) hx hb dX6_ahead_7 (by decide) ?_
    obtain ⟨r18, hq17, hf⟩ := qbd_s hf
    refine q_callVi hC hR (mX6_of (qJ hC) hq17) (by decide) (qsh_238 G ad _) rfl qk_1230 qk_1232 qk_23 qk_64 qk_1233 qhd_X6_of ⟨Nat.le_of_ble_eq_true rfl, Nat.le_of_ble_eq_true rfl⟩ hl.1 rfl (Nat.le_of_ble_eq_true rfl) dX6_ahead_8 ⟨Nat.zero_le _, Nat.zero_le _⟩ (fun H locs hR => ?_)
    refine lv_aload_n hx hb dX6_ahead_11 rfl (lv_at hl 0 rfl) ?_
    refine lv_iload_n hx hb dX6_ahead_12 rfl (lv_at hl 2 rfl) ?_
    refine lv_iconst (v := 2) hx hb dX6_ahead_13 (by decide) ?_
    obtain ⟨r20, hq19, hf⟩ := qbd_s hf
    refine q_callVi hC hR (mX6_of (qJ hC) hq19) (by decide) (qsh_238 G ad _) rfl qk_1230 qk_1232 qk_23 qk_64 qk_1233 qhd_X6_of ⟨Nat.le_of_ble_eq_true rfl, Nat.le_of_ble_eq_true rfl⟩ hl.1 rfl (Nat.le_of_ble_eq_true rfl) dX6_ahead_14 ⟨Nat.zero_le _, Nat.zero_le _⟩ (fun H locs hR => ?_)
    refine lv_isub hx hb dX6_ahead_17 ?_
    refine lv_topi (fun x21 ex21 => ?_)
    have hf := qnm_t hf ex21
    refine lv_istore (lv' := [(4, .int x21), (0, .ref (ad 238)), (1, .int a1), (2, .int a2), (3, .int a3)]) hx hb dX6_ahead_18 hl (by decide) rfl (fun ls hl => ?_)
    refine lv_iload hx hb dX6_ahead_20 (lv_at hl 0 rfl) ?_
    refine lv_if_eq (tgt := 30) hx hb dX6_ahead_22 (by decide) (fun c_22 => ?_) (fun c_22 => ?_)
    · have hf := qif_t hf c_22
      refine lv_aload_n hx hb dX6_ahead_30 rfl (lv_at hl 1 rfl) ?_
      refine lv_iload_n hx hb dX6_ahead_31 rfl (lv_at hl 3 rfl) ?_
      refine lv_iconst (v := 3) hx hb dX6_ahead_32 (by decide) ?_
      obtain ⟨r24, hq23, hf⟩ := qbd_s hf
      refine q_callVi hC hR (mX6_of (qJ hC) hq23) (by decide) (qsh_238 G ad _) rfl qk_1230 qk_1232 qk_23 qk_64 qk_1233 qhd_X6_of ⟨Nat.le_of_ble_eq_true rfl, Nat.le_of_ble_eq_true rfl⟩ hl.1 rfl (Nat.le_of_ble_eq_true rfl) dX6_ahead_33 ⟨Nat.zero_le _, Nat.zero_le _⟩ (fun H locs hR => ?_)
      refine lv_aload_n hx hb dX6_ahead_36 rfl (lv_at hl 1 rfl) ?_
      refine lv_iload_n hx hb dX6_ahead_37 rfl (lv_at hl 2 rfl) ?_
      refine lv_iconst (v := 3) hx hb dX6_ahead_38 (by decide) ?_
      obtain ⟨r26, hq25, hf⟩ := qbd_s hf
      refine q_callVi hC hR (mX6_of (qJ hC) hq25) (by decide) (qsh_238 G ad _) rfl qk_1230 qk_1232 qk_23 qk_64 qk_1233 qhd_X6_of ⟨Nat.le_of_ble_eq_true rfl, Nat.le_of_ble_eq_true rfl⟩ hl.1 rfl (Nat.le_of_ble_eq_true rfl) dX6_ahead_39 ⟨Nat.zero_le _, Nat.zero_le _⟩ (fun H locs hR => ?_)
      refine lv_isub hx hb dX6_ahead_42 ?_
      exact q_iret hC hR hr rfl (qso hf) rfl dX6_ahead_43
    · have hf := qif_f hf c_22
      refine lv_iload hx hb dX6_ahead_25 (lv_at hl 0 rfl) ?_
      refine lv_goto (tgt := 43) hx hb dX6_ahead_27 (by decide) ?_
      exact q_iret hC hR hr rfl (qso hf) rfl dX6_ahead_43
-- X6.placed
def fX6_placed_L88  (k53 : (qMem → Int32 → Int32 → Int32 → Int32 → Int32 → Int32 → Option (Int32 × qMem))) (w : qMem) (x1 : Int32) (x2 : Int32) (x3 : Int32) (x4 : Int32) (x5 : Int32) (x6 : Int32) (s0 : Int32) : Option (Int32 × qMem) :=
  if 0 < s0 then
    qnm (x5 + 1) fun (x21 : Int32) =>
    qnm (x6 + 1) fun (x22 : Int32) =>
    k53 w x1 x2 x3 x4 x21 x22
  else
    if s0 = 0 then
      if x4 ≤ x6 then
        qnm (x5 + 0) fun (x27 : Int32) =>
        qnm (x6 + 1) fun (x28 : Int32) =>
        k53 w x1 x2 x3 x4 x27 x28
      else
        qnm (x5 + 1) fun (x29 : Int32) =>
        qnm (x6 + 1) fun (x30 : Int32) =>
        k53 w x1 x2 x3 x4 x29 x30
    else
      qnm (x5 + 0) fun (x24 : Int32) =>
      qnm (x6 + 1) fun (x25 : Int32) =>
      k53 w x1 x2 x3 x4 x24 x25
set_option maxHeartbeats 4000000 in
set_option maxRecDepth 100000 in
theorem mX6_placed_L88 {p : Program} {l : Launch} {e : Env} {s : State} {m : MethodId} {args : Array Value} {below : List Frame} {meth : Method} {c0 : Code} {D : va_G} {G : Nat → ClassId} {ad : Nat → Nat}   {rF : Int32} {wF : qMem} {k53 : (qMem → Int32 → Int32 → Int32 → Int32 → Int32 → Int32 → Option (Int32 × qMem))} (hC : qCx p c0 cX6_placed 8 s m args meth RX6 D G ad) (hr : meth.sig.returnType = some .int) (hk53 : ∀ (w : qMem) (x1 : Int32) (x2 : Int32) (x3 : Int32) (x4 : Int32) (x5 : Int32) (x6 : Int32) (H : Heap) (locs : List Loc) (ls : Array Slot), k53 w x1 x2 x3 x4 x5 x6 = some (rF, wF) → qRp D G ad s w H locs → lv_has ls 8 [(0, .ref (ad 238)), (1, .int x1), (2, .int x2), (3, .int x3), (4, .int x4), (5, .int x5), (6, .int x6)] → W p l e (qrm 3 0 0) s m args below meth c0 H locs 0 0 (MQ below (qQI D G ad s wF rF) args s 0 0 (qAdr ad s.heap.size)) (F0 m 53 ls [])) : ∀ (w : qMem) (x1 : Int32) (x2 : Int32) (x3 : Int32) (x4 : Int32) (x5 : Int32) (x6 : Int32) (s0 : Int32) (H : Heap) (locs : List Loc) (ls : Array Slot), fX6_placed_L88 k53 w x1 x2 x3 x4 x5 x6 s0 = some (rF, wF) → qRp D G ad s w H locs → lv_has ls 8 [(0, .ref (ad 238)), (1, .int x1), (2, .int x2), (3, .int x3), (4, .int x4), (5, .int x5), (6, .int x6)] → W p l e (qrm 3 0 0) s m args below meth c0 H locs 0 0 (MQ below (qQI D G ad s wF rF) args s 0 0 (qAdr ad s.heap.size)) (F0 m 88 ls [.int s0]) := by
  have hx := hC.1
  have hb := hC.2.1
  intro w x1 x2 x3 x4 x5 x6 s0 H locs ls hf hR hl
  unfold fX6_placed_L88 at hf
  refine lv_istore (lv' := [(7, .int s0), (0, .ref (ad 238)), (1, .int x1), (2, .int x2), (3, .int x3), (4, .int x4), (5, .int x5), (6, .int x6)]) hx hb dX6_placed_88 hl (by decide) rfl (fun ls hl => ?_)
  refine lv_iload hx hb dX6_placed_90 (lv_at hl 6 rfl) ?_
  refine lv_iload hx hb dX6_placed_92 (lv_at hl 0 rfl) ?_
  refine lv_if_gt (tgt := 109) hx hb dX6_placed_94 (by decide) (fun c_20 => ?_) (fun c_20 => ?_)
  · have hf := qif_t hf c_20
    refine lv_iconst (v := 1) hx hb dX6_placed_109 (by decide) ?_
    refine lv_goto (tgt := 114) hx hb dX6_placed_110 (by decide) ?_
    refine lv_iadd hx hb dX6_placed_114 ?_
    refine lv_topi (fun x21 ex21 => ?_)
    have hf := qnm_t hf ex21
    refine lv_istore (lv' := [(5, .int x21), (7, .int s0), (0, .ref (ad 238)), (1, .int x1), (2, .int x2), (3, .int x3), (4, .int x4), (6, .int x6)]) hx hb dX6_placed_115 hl (by decide) rfl (fun ls hl => ?_)
    obtain ⟨x22, ex22⟩ : ∃ y : Int32, y = x6 + 1 := ⟨_, rfl⟩
    have hf := qnm_t hf ex22
    refine lv_iinc (v := x22) (lv' := [(6, .int x22), (5, .int x21), (7, .int s0), (0, .ref (ad 238)), (1, .int x1), (2, .int x2), (3, .int x3), (4, .int x4)]) hx hb dX6_placed_117 hl (k := 7) rfl (by rw [ex22]; rfl) (by decide) rfl (fun ls hl => ?_)
    refine lv_goto (tgt := 53) hx hb dX6_placed_120 (by decide) ?_
    exact hk53 _ _ _ _ _ _ _ _ _ _ hf hR (lv_sub hl [3, 4, 5, 6, 7, 1, 0] rfl)
  · have hf := qif_f hf c_20
    refine lv_iload hx hb dX6_placed_97 (lv_at hl 0 rfl) ?_
    refine lv_if_ne (tgt := 113) hx hb dX6_placed_99 (by decide) (fun c_23 => ?_) (fun c_23 => ?_)
    · have hf := qif_f hf c_23
      refine lv_iconst (v := 0) hx hb dX6_placed_113 (by decide) ?_
      refine lv_iadd hx hb dX6_placed_114 ?_
      refine lv_topi (fun x24 ex24 => ?_)
      have hf := qnm_t hf ex24
      refine lv_istore (lv' := [(5, .int x24), (7, .int s0), (0, .ref (ad 238)), (1, .int x1), (2, .int x2), (3, .int x3), (4, .int x4), (6, .int x6)]) hx hb dX6_placed_115 hl (by decide) rfl (fun ls hl => ?_)
      obtain ⟨x25, ex25⟩ : ∃ y : Int32, y = x6 + 1 := ⟨_, rfl⟩
      have hf := qnm_t hf ex25
      refine lv_iinc (v := x25) (lv' := [(6, .int x25), (5, .int x24), (7, .int s0), (0, .ref (ad 238)), (1, .int x1), (2, .int x2), (3, .int x3), (4, .int x4)]) hx hb dX6_placed_117 hl (k := 7) rfl (by rw [ex25]; rfl) (by decide) rfl (fun ls hl => ?_)
      refine lv_goto (tgt := 53) hx hb dX6_placed_120 (by decide) ?_
      exact hk53 _ _ _ _ _ _ _ _ _ _ hf hR (lv_sub hl [3, 4, 5, 6, 7, 1, 0] rfl)
    · have hf := qif_t hf c_23
      refine lv_iload hx hb dX6_placed_102 (lv_at hl 7 rfl) ?_
      refine lv_iload hx hb dX6_placed_104 (lv_at hl 5 rfl) ?_
      refine lv_icmp_ge (tgt := 113) hx hb dX6_placed_106 (by decide) (fun c_26 => ?_) (fun c_26 => ?_)
      · have hf := qif_t hf c_26
        refine lv_iconst (v := 0) hx hb dX6_placed_113 (by decide) ?_
        refine lv_iadd hx hb dX6_placed_114 ?_
        refine lv_topi (fun x27 ex27 => ?_)
        have hf := qnm_t hf ex27
        refine lv_istore (lv' := [(5, .int x27), (7, .int s0), (0, .ref (ad 238)), (1, .int x1), (2, .int x2), (3, .int x3), (4, .int x4), (6, .int x6)]) hx hb dX6_placed_115 hl (by decide) rfl (fun ls hl => ?_)
        obtain ⟨x28, ex28⟩ : ∃ y : Int32, y = x6 + 1 := ⟨_, rfl⟩
        have hf := qnm_t hf ex28
        refine lv_iinc (v := x28) (lv' := [(6, .int x28), (5, .int x27), (7, .int s0), (0, .ref (ad 238)), (1, .int x1), (2, .int x2), (3, .int x3), (4, .int x4)]) hx hb dX6_placed_117 hl (k := 7) rfl (by rw [ex28]; rfl) (by decide) rfl (fun ls hl => ?_)
        refine lv_goto (tgt := 53) hx hb dX6_placed_120 (by decide) ?_
        exact hk53 _ _ _ _ _ _ _ _ _ _ hf hR (lv_sub hl [3, 4, 5, 6, 7, 1, 0] rfl)
      · have hf := qif_f hf c_26
        refine lv_iconst (v := 1) hx hb dX6_placed_109 (by decide) ?_
        refine lv_goto (tgt := 114) hx hb dX6_placed_110 (by decide) ?_
        refine lv_iadd hx hb dX6_placed_114 ?_
        refine lv_topi (fun x29 ex29 => ?_)
        have hf := qnm_t hf ex29
        refine lv_istore (lv' := [(5, .int x29), (7, .int s0), (0, .ref (ad 238)), (1, .int x1), (2, .int x2), (3, .int x3), (4, .int x4), (6, .int x6)]) hx hb dX6_placed_115 hl (by decide) rfl (fun ls hl => ?_)
        obtain ⟨x30, ex30⟩ : ∃ y : Int32, y = x6 + 1 := ⟨_, rfl⟩
        have hf := qnm_t hf ex30
        refine lv_iinc (v := x30) (lv' := [(6, .int x30), (5, .int x29), (7, .int s0), (0, .ref (ad 238)), (1, .int x1), (2, .int x2), (3, .int x3), (4, .int x4)]) hx hb dX6_placed_117 hl (k := 7) rfl (by rw [ex30]; rfl) (by decide) rfl (fun ls hl => ?_)
        refine lv_goto (tgt := 53) hx hb dX6_placed_120 (by decide) ?_
        exact hk53 _ _ _ _ _ _ _ _ _ _ hf hR (lv_sub hl [3, 4, 5, 6, 7, 1, 0] rfl)
def fX6_placed_L53  (k29 : (qMem → Int32 → Int32 → Int32 → Int32 → Option (Int32 × qMem))) : Nat → qMem → Int32 → Int32 → Int32 → Int32 → Int32 → Int32 → Option (Int32 × qMem)
  | 0, _, _, _, _, _, _, _ => none
  | n + 1, w, x1, x2, x3, x4, x5, x6 =>
    if w 239 0 ≤ x6 then
      qbd (fX6_of w x4 0) fun (r11 : Int32) =>
      if r11 = x1 then
        if x5 = x2 then
          qnm (x4 + 1) fun (x16 : Int32) =>
          k29 w x1 x2 x4 x16
        else
          qnm (x4 + 1) fun (x15 : Int32) =>
          k29 w x1 x2 x3 x15
      else
        qnm (x4 + 1) fun (x13 : Int32) =>
        k29 w x1 x2 x3 x13
    else
      qbd (fX6_of w x6 0) fun (r18 : Int32) =>
      if r18 = x1 then
        qbd (fX6_ahead w x6 x4 x1) fun (r32 : Int32) =>
        fX6_placed_L88 (fX6_placed_L53 k29 n) w x1 x2 x3 x4 x5 x6 r32
      else
        fX6_placed_L88 (fX6_placed_L53 k29 n) w x1 x2 x3 x4 x5 x6 (-1)
set_option maxHeartbeats 4000000 in
set_option maxRecDepth 100000 in
theorem mX6_placed_L53 {p : Program} {l : Launch} {e : Env} {s : State} {m : MethodId} {args : Array Value} {below : List Frame} {meth : Method} {c0 : Code} {D : va_G} {G : Nat → ClassId} {ad : Nat → Nat}   {rF : Int32} {wF : qMem} {k29 : (qMem → Int32 → Int32 → Int32 → Int32 → Option (Int32 × qMem))} (hC : qCx p c0 cX6_placed 8 s m args meth RX6 D G ad) (hr : meth.sig.returnType = some .int) (hk29 : ∀ (w : qMem) (x1 : Int32) (x2 : Int32) (x3 : Int32) (x4 : Int32) (H : Heap) (locs : List Loc) (ls : Array Slot), k29 w x1 x2 x3 x4 = some (rF, wF) → qRp D G ad s w H locs → lv_has ls 8 [(0, .ref (ad 238)), (1, .int x1), (2, .int x2), (3, .int x3), (4, .int x4)] → W p l e (qrm 3 0 0) s m args below meth c0 H locs 0 0 (MQ below (qQI D G ad s wF rF) args s 0 0 (qAdr ad s.heap.size)) (F0 m 29 ls [])) : ∀ (n : Nat), ∀ (w : qMem) (x1 : Int32) (x2 : Int32) (x3 : Int32) (x4 : Int32) (x5 : Int32) (x6 : Int32) (H : Heap) (locs : List Loc) (ls : Array Slot), fX6_placed_L53 k29 n w x1 x2 x3 x4 x5 x6 = some (rF, wF) → qRp D G ad s w H locs → lv_has ls 8 [(0, .ref (ad 238)), (1, .int x1), (2, .int x2), (3, .int x3), (4, .int x4), (5, .int x5), (6, .int x6)] → W p l e (qrm 3 0 0) s m args below meth c0 H locs 0 0 (MQ below (qQI D G ad s wF rF) args s 0 0 (qAdr ad s.heap.size)) (F0 m 53 ls []) := by
  have hx := hC.1
  have hb := hC.2.1
  intro n
  induction n with
  | zero => intro w x1 x2 x3 x4 x5 x6 H locs ls hf; exact nomatch (show (none : Option (Int32 × qMem)) = some _ from hf)
  | succ n ih =>
    intro w x1 x2 x3 x4 x5 x6 H locs ls hf hR hl
    rw [fX6_placed_L53] at hf
    refine lv_iload hx hb dX6_placed_53 (lv_at hl 6 rfl) ?_
    refine lv_aload_n hx hb dX6_placed_55 rfl (lv_at hl 0 rfl) ?_
    refine qget_X6_0 hC hR qk_1125 dX6_placed_56 ?_
    refine lv_iconst (v := 0) hx hb dX6_placed_59 (by decide) ?_
    refine q_ild hC hR (j := 0) (by decide) (qsh_239 G ad _) (by decide) (by decide) dX6_placed_60 ?_
    refine lv_icmp_ge (tgt := 123) hx hb dX6_placed_61 (by decide) (fun c_9 => ?_) (fun c_9 => ?_)
    · have hf := qif_t hf c_9
      refine lv_aload_n hx hb dX6_placed_123 rfl (lv_at hl 0 rfl) ?_
      refine lv_iload hx hb dX6_placed_124 (lv_at hl 4 rfl) ?_
      refine lv_iconst (v := 0) hx hb dX6_placed_126 (by decide) ?_
      obtain ⟨r11, hq10, hf⟩ := qbd_s hf
      refine q_callVi hC hR (mX6_of (qJ hC) hq10) (by decide) (qsh_238 G ad _) rfl qk_1230 qk_1232 qk_23 qk_64 qk_1233 qhd_X6_of ⟨Nat.le_of_ble_eq_true rfl, Nat.le_of_ble_eq_true rfl⟩ hl.1 rfl (Nat.le_of_ble_eq_true rfl) dX6_placed_127 ⟨Nat.zero_le _, Nat.zero_le _⟩ (fun H locs hR => ?_)
      refine lv_iload_n hx hb dX6_placed_130 rfl (lv_at hl 1 rfl) ?_
      refine lv_icmp_ne (tgt := 145) hx hb dX6_placed_131 (by decide) (fun c_12 => ?_) (fun c_12 => ?_)
      · have hf := qif_f hf c_12
        refine lv_iload_n hx hb dX6_placed_145 rfl (lv_at hl 3 rfl) ?_
        refine lv_istore_n (lv' := [(3, .int x3), (0, .ref (ad 238)), (1, .int x1), (2, .int x2), (4, .int x4), (5, .int x5), (6, .int x6)]) hx hb dX6_placed_146 rfl hl (by decide) rfl (fun ls hl => ?_)
        obtain ⟨x13, ex13⟩ : ∃ y : Int32, y = x4 + 1 := ⟨_, rfl⟩
        have hf := qnm_t hf ex13
        refine lv_iinc (v := x13) (lv' := [(4, .int x13), (3, .int x3), (0, .ref (ad 238)), (1, .int x1), (2, .int x2), (5, .int x5), (6, .int x6)]) hx hb dX6_placed_147 hl (k := 4) rfl (by rw [ex13]; rfl) (by decide) rfl (fun ls hl => ?_)
        refine lv_goto (tgt := 29) hx hb dX6_placed_150 (by decide) ?_
        exact hk29 _ _ _ _ _ _ _ _ hf hR (lv_sub hl [2, 3, 4, 1, 0] rfl)
      · have hf := qif_t hf c_12
        refine lv_iload hx hb dX6_placed_134 (lv_at hl 5 rfl) ?_
        refine lv_iload_n hx hb dX6_placed_136 rfl (lv_at hl 2 rfl) ?_
        refine lv_icmp_ne (tgt := 145) hx hb dX6_placed_137 (by decide) (fun c_14 => ?_) (fun c_14 => ?_)
        · have hf := qif_f hf c_14
          refine lv_iload_n hx hb dX6_placed_145 rfl (lv_at hl 3 rfl) ?_
          refine lv_istore_n (lv' := [(3, .int x3), (0, .ref (ad 238)), (1, .int x1), (2, .int x2), (4, .int x4), (5, .int x5), (6, .int x6)]) hx hb dX6_placed_146 rfl hl (by decide) rfl (fun ls hl => ?_)
          obtain ⟨x15, ex15⟩ : ∃ y : Int32, y = x4 + 1 := ⟨_, rfl⟩
          have hf := qnm_t hf ex15
          refine lv_iinc (v := x15) (lv' := [(4, .int x15), (3, .int x3), (0, .ref (ad 238)), (1, .int x1), (2, .int x2), (5, .int x5), (6, .int x6)]) hx hb dX6_placed_147 hl (k := 4) rfl (by rw [ex15]; rfl) (by decide) rfl (fun ls hl => ?_)
          refine lv_goto (tgt := 29) hx hb dX6_placed_150 (by decide) ?_
          exact hk29 _ _ _ _ _ _ _ _ hf hR (lv_sub hl [2, 3, 4, 1, 0] rfl)
        · have hf := qif_t hf c_14
          refine lv_iload hx hb dX6_placed_140 (lv_at hl 4 rfl) ?_
          refine lv_goto (tgt := 146) hx hb dX6_placed_142 (by decide) ?_
          refine lv_istore_n (lv' := [(3, .int x4), (0, .ref (ad 238)), (1, .int x1), (2, .int x2), (4, .int x4), (5, .int x5), (6, .int x6)]) hx hb dX6_placed_146 rfl hl (by decide) rfl (fun ls hl => ?_)
          obtain ⟨x16, ex16⟩ : ∃ y : Int32, y = x4 + 1 := ⟨_, rfl⟩
          have hf := qnm_t hf ex16
          refine lv_iinc (v := x16) (lv' := [(4, .int x16), (3, .int x4), (0, .ref (ad 238)), (1, .int x1), (2, .int x2), (5, .int x5), (6, .int x6)]) hx hb dX6_placed_147 hl (k := 4) rfl (by rw [ex16]; rfl) (by decide) rfl (fun ls hl => ?_)
          refine lv_goto (tgt := 29) hx hb dX6_placed_150 (by decide) ?_
          exact hk29 _ _ _ _ _ _ _ _ hf hR (lv_sub hl [2, 3, 4, 1, 0] rfl)
    · have hf := qif_f hf c_9
      refine lv_aload_n hx hb dX6_placed_64 rfl (lv_at hl 0 rfl) ?_
      refine lv_iload hx hb dX6_placed_65 (lv_at hl 6 rfl) ?_
      refine lv_iconst (v := 0) hx hb dX6_placed_67 (by decide) ?_
      obtain ⟨r18, hq17, hf⟩ := qbd_s hf
      refine q_callVi hC hR (mX6_of (qJ hC) hq17) (by decide) (qsh_238 G ad _) rfl qk_1230 qk_1232 qk_23 qk_64 qk_1233 qhd_X6_of ⟨Nat.le_of_ble_eq_true rfl, Nat.le_of_ble_eq_true rfl⟩ hl.1 rfl (Nat.le_of_ble_eq_true rfl) dX6_placed_68 ⟨Nat.zero_le _, Nat.zero_le _⟩ (fun H locs hR => ?_)
      refine lv_iload_n hx hb dX6_placed_71 rfl (lv_at hl 1 rfl) ?_
      refine lv_icmp_ne (tgt := 87) hx hb dX6_placed_72 (by decide) (fun c_19 => ?_) (fun c_19 => ?_)
      · have hf := qif_f hf c_19
        refine lv_iconst (v := (-1)) hx hb dX6_placed_87 (by decide) ?_
        exact mX6_placed_L88 hC hr (ih) _ _ _ _ _ _ _ _ _ _ _ hf hR (lv_sub hl [0, 1, 2, 3, 4, 5, 6] rfl)
      · have hf := qif_t hf c_19
        refine lv_aload_n hx hb dX6_placed_75 rfl (lv_at hl 0 rfl) ?_
        refine lv_iload hx hb dX6_placed_76 (lv_at hl 6 rfl) ?_
        refine lv_iload hx hb dX6_placed_78 (lv_at hl 4 rfl) ?_
        refine lv_iload_n hx hb dX6_placed_80 rfl (lv_at hl 1 rfl) ?_
        obtain ⟨r32, hq31, hf⟩ := qbd_s hf
        refine q_callVi hC hR (mX6_ahead (qJ hC) hq31) (by decide) (qsh_238 G ad _) rfl qk_1397 qk_1399 qk_43 qk_64 qk_1400 qhd_X6_ahead ⟨Nat.le_of_ble_eq_true rfl, Nat.le_of_ble_eq_true rfl⟩ hl.1 rfl (Nat.le_of_ble_eq_true rfl) dX6_placed_81 ⟨Nat.zero_le _, Nat.zero_le _⟩ (fun H locs hR => ?_)
        refine lv_goto (tgt := 88) hx hb dX6_placed_84 (by decide) ?_
        exact mX6_placed_L88 hC hr (ih) _ _ _ _ _ _ _ _ _ _ _ hf hR (lv_sub hl [0, 1, 2, 3, 4, 5, 6] rfl)
def fX6_placed_L29   : Nat → qMem → Int32 → Int32 → Int32 → Int32 → Option (Int32 × qMem)
  | 0, _, _, _, _, _ => none
  | n + 1, w, x1, x2, x3, x4 =>
    if w 239 0 ≤ x4 then
      some (x3, w)
    else
      if w 238 7 = 0 then
        fX6_placed_L53 (fX6_placed_L29 n) 100 w x1 x2 x3 x4 0 0
      else
        some (x3, w)
set_option maxHeartbeats 4000000 in
set_option maxRecDepth 100000 in
theorem mX6_placed_L29 {p : Program} {l : Launch} {e : Env} {s : State} {m : MethodId} {args : Array Value} {below : List Frame} {meth : Method} {c0 : Code} {D : va_G} {G : Nat → ClassId} {ad : Nat → Nat}   {rF : Int32} {wF : qMem}  (hC : qCx p c0 cX6_placed 8 s m args meth RX6 D G ad) (hr : meth.sig.returnType = some .int)  : ∀ (n : Nat), ∀ (w : qMem) (x1 : Int32) (x2 : Int32) (x3 : Int32) (x4 : Int32) (H : Heap) (locs : List Loc) (ls : Array Slot), fX6_placed_L29 n w x1 x2 x3 x4 = some (rF, wF) → qRp D G ad s w H locs → lv_has ls 8 [(0, .ref (ad 238)), (1, .int x1), (2, .int x2), (3, .int x3), (4, .int x4)] → W p l e (qrm 3 0 0) s m args below meth c0 H locs 0 0 (MQ below (qQI D G ad s wF rF) args s 0 0 (qAdr ad s.heap.size)) (F0 m 29 ls []) := by
  have hx := hC.1
  have hb := hC.2.1
  intro n
  induction n with
  | zero => intro w x1 x2 x3 x4 H locs ls hf; exact nomatch (show (none : Option (Int32 × qMem)) = some _ from hf)
  | succ n ih =>
    intro w x1 x2 x3 x4 H locs ls hf hR hl
    rw [fX6_placed_L29] at hf
    refine lv_iload hx hb dX6_placed_29 (lv_at hl 4 rfl) ?_
    refine lv_aload_n hx hb dX6_placed_31 rfl (lv_at hl 0 rfl) ?_
    refine qget_X6_0 hC hR qk_1125 dX6_placed_32 ?_
    refine lv_iconst (v := 0) hx hb dX6_placed_35 (by decide) ?_
    refine q_ild hC hR (j := 0) (by decide) (qsh_239 G ad _) (by decide) (by decide) dX6_placed_36 ?_
    refine lv_icmp_ge (tgt := 153) hx hb dX6_placed_37 (by decide) (fun c_7 => ?_) (fun c_7 => ?_)
    · have hf := qif_t hf c_7
      refine lv_iload_n hx hb dX6_placed_153 rfl (lv_at hl 3 rfl) ?_
      exact q_iret hC hR hr rfl (qso2 hf).1 (qso2 hf).2 dX6_placed_154
    · have hf := qif_f hf c_7
      refine lv_aload_n hx hb dX6_placed_40 rfl (lv_at hl 0 rfl) ?_
      refine qget_X6_7 hC hR qk_1132 dX6_placed_41 ?_
      refine lv_if_ne (tgt := 153) hx hb dX6_placed_44 (by decide) (fun c_8 => ?_) (fun c_8 => ?_)
      · have hf := qif_f hf c_8
        refine lv_iload_n hx hb dX6_placed_153 rfl (lv_at hl 3 rfl) ?_
        exact q_iret hC hR hr rfl (qso2 hf).1 (qso2 hf).2 dX6_placed_154
      · have hf := qif_t hf c_8
        refine lv_iconst (v := 0) hx hb dX6_placed_47 (by decide) ?_
        refine lv_istore (lv' := [(5, .int 0), (0, .ref (ad 238)), (1, .int x1), (2, .int x2), (3, .int x3), (4, .int x4)]) hx hb dX6_placed_48 hl (by decide) rfl (fun ls hl => ?_)
        refine lv_iconst (v := 0) hx hb dX6_placed_50 (by decide) ?_
        refine lv_istore (lv' := [(6, .int 0), (5, .int 0), (0, .ref (ad 238)), (1, .int x1), (2, .int x2), (3, .int x3), (4, .int x4)]) hx hb dX6_placed_51 hl (by decide) rfl (fun ls hl => ?_)
        exact mX6_placed_L53 hC hr (ih) 100 _ _ _ _ _ _ _ _ _ _ hf hR (lv_sub hl [2, 3, 4, 5, 6, 1, 0] rfl)
def fX6_placed (w : qMem)  (a1 : Int32) (a2 : Int32) : Option (Int32 × qMem) :=
  qbd (fX6_kindMany w a1) fun (r2 : Int32) =>
  qbd (fX6_in w a2 0 (r2 - 1)) fun (r4 : Int32) =>
  if r4 = 0 then
    qnm (quw w 238 7 1) fun (w6 : qMem) =>
    fX6_placed_L29 100 w6 a1 a2 0 0
  else
    qnm (quw w 238 7 0) fun (w33 : qMem) =>
    fX6_placed_L29 100 w33 a1 a2 0 0
theorem qhd_X6_placed : yX6_placed.cls ≠ "java/lang/invoke/MethodHandle" ∧ yX6_placed.cls ≠ "java/lang/invoke/VarHandle" ∧ (parseMethodDescriptor yX6_placed.desc).map (fun d => d.parameters.length) = some 2 := ⟨by decide +kernel, by decide +kernel, by decide +kernel⟩
set_option maxHeartbeats 4000000 in
set_option maxRecDepth 100000 in
theorem mX6_placed {l : Launch} {D : va_G} {G : Nat → ClassId} {ad : Nat → Nat} (hJ : qInj ad) {w : qMem}   {a1 : Int32} {a2 : Int32} {rF : Int32} {wF : qMem} (hf : fX6_placed w a1 a2 = some (rF, wF)) : qCMi l D G ad yX6_placed cX6_placed 8 (some .int) 3 0 0 [.ref (ad 238), .int a1, .int a2] w rF wF := by
  refine q_start RX6 rfl (by decide +kernel) hJ (fun a b h => by simp only [qQI, qQV, qQR, h]) (Nat.le_of_ble_eq_true rfl) ?_
  intro p e s m args below meth c0 ls hC hr hR hl
  have hx := hC.1
  have hb := hC.2.1
  have hl : lv_has ls 8 [(0, .ref (ad 238)), (1, .int a1), (2, .int a2)] := hl
  unfold fX6_placed at hf
  refine lv_aload_n hx hb dX6_placed_0 rfl (lv_at hl 0 rfl) ?_
  refine lv_iload_n hx hb dX6_placed_1 rfl (lv_at hl 2 rfl) ?_
  refine lv_iconst (v := 0) hx hb dX6_placed_2 (by decide) ?_
  refine lv_aload_n hx hb dX6_placed_3 rfl (lv_at hl 0 rfl) ?_
  refine lv_iload_n hx hb dX6_placed_4 rfl (lv_at hl 1 rfl) ?_
  obtain ⟨r2, hq1, hf⟩ := qbd_s hf
  refine q_callVi hC hR (mX6_kindMany (qJ hC) hq1) (by decide) (qsh_238 G ad _) rfl qk_1325 qk_1327 qk_37 qk_64 qk_1328 qhd_X6_kindMany ⟨Nat.le_of_ble_eq_true rfl, Nat.le_of_ble_eq_true rfl⟩ hl.1 rfl (Nat.le_of_ble_eq_true rfl) dX6_placed_5 ⟨Nat.zero_le _, Nat.zero_le _⟩ (fun H locs hR => ?_)
  refine lv_iconst (v := 1) hx hb dX6_placed_8 (by decide) ?_
  refine lv_isub hx hb dX6_placed_9 ?_
  obtain ⟨r4, hq3, hf⟩ := qbd_s hf
  refine q_callSi hC hR (mX6_in (qJ hC) hq3) qk_1215 qk_1216 qk_64 qk_1217 qhd_X6_in ⟨Nat.le_of_ble_eq_true rfl, Nat.le_of_ble_eq_true rfl⟩ hl.1 rfl (Nat.le_of_ble_eq_true rfl) dX6_placed_10 ⟨Nat.zero_le _, Nat.zero_le _⟩ (fun H locs hR => ?_)
  refine lv_if_eq (tgt := 20) hx hb dX6_placed_13 (by decide) (fun c_5 => ?_) (fun c_5 => ?_)
  · have hf := qif_t hf c_5
    refine lv_iconst (v := 1) hx hb dX6_placed_20 (by decide) ?_
    refine qput_X6_7 hC hR qk_1132 ⟨rfl, rfl⟩ dX6_placed_21 (fun w6 H locs ew6 hR => ?_)
    have hf := qnm_t hf ew6
    refine lv_iconst (v := 0) hx hb dX6_placed_24 (by decide) ?_
    refine lv_istore_n (lv' := [(3, .int 0), (0, .ref (ad 238)), (1, .int a1), (2, .int a2)]) hx hb dX6_placed_25 rfl hl (by decide) rfl (fun ls hl => ?_)
    refine lv_iconst (v := 0) hx hb dX6_placed_26 (by decide) ?_
    refine lv_istore (lv' := [(4, .int 0), (3, .int 0), (0, .ref (ad 238)), (1, .int a1), (2, .int a2)]) hx hb dX6_placed_27 hl (by decide) rfl (fun ls hl => ?_)
    exact mX6_placed_L29 hC hr 100 _ _ _ _ _ _ _ _ hf hR (lv_sub hl [2, 3, 4, 1, 0] rfl)
  · have hf := qif_f hf c_5
    refine lv_iconst (v := 0) hx hb dX6_placed_16 (by decide) ?_
    refine lv_goto (tgt := 21) hx hb dX6_placed_17 (by decide) ?_
    refine qput_X6_7 hC hR qk_1132 ⟨rfl, rfl⟩ dX6_placed_21 (fun w33 H locs ew33 hR => ?_)
    have hf := qnm_t hf ew33
    refine lv_iconst (v := 0) hx hb dX6_placed_24 (by decide) ?_
    refine lv_istore_n (lv' := [(3, .int 0), (0, .ref (ad 238)), (1, .int a1), (2, .int a2)]) hx hb dX6_placed_25 rfl hl (by decide) rfl (fun ls hl => ?_)
    refine lv_iconst (v := 0) hx hb dX6_placed_26 (by decide) ?_
    refine lv_istore (lv' := [(4, .int 0), (3, .int 0), (0, .ref (ad 238)), (1, .int a1), (2, .int a2)]) hx hb dX6_placed_27 hl (by decide) rfl (fun ls hl => ?_)
    exact mX6_placed_L29 hC hr 100 _ _ _ _ _ _ _ _ hf hR (lv_sub hl [2, 3, 4, 1, 0] rfl)
-- X6.cupAt
def fX6_cupAt (w : qMem)  (a1 : Int32) : Option (Int32 × qMem) :=
  qbd2 (fX6_placed w 1 a1) fun (r2 : Int32) (w3 : qMem) =>
  some (r2, w3)
theorem qhd_X6_cupAt : yX6_cupAt.cls ≠ "java/lang/invoke/MethodHandle" ∧ yX6_cupAt.cls ≠ "java/lang/invoke/VarHandle" ∧ (parseMethodDescriptor yX6_cupAt.desc).map (fun d => d.parameters.length) = some 1 := ⟨by decide +kernel, by decide +kernel, by decide +kernel⟩
set_option maxHeartbeats 4000000 in
set_option maxRecDepth 100000 in
theorem mX6_cupAt {l : Launch} {D : va_G} {G : Nat → ClassId} {ad : Nat → Nat} (hJ : qInj ad) {w : qMem}   {a1 : Int32} {rF : Int32} {wF : qMem} (hf : fX6_cupAt w a1 = some (rF, wF)) : qCMi l D G ad yX6_cupAt cX6_cupAt 2 (some .int) 4 0 0 [.ref (ad 238), .int a1] w rF wF := by
  refine q_start RX6 rfl (by decide +kernel) hJ (fun a b h => by simp only [qQI, qQV, qQR, h]) (Nat.le_of_ble_eq_true rfl) ?_
  intro p e s m args below meth c0 ls hC hr hR hl
  have hx := hC.1
  have hb := hC.2.1
  have hl : lv_has ls 2 [(0, .ref (ad 238)), (1, .int a1)] := hl
  unfold fX6_cupAt at hf
  refine lv_aload_n hx hb dX6_cupAt_0 rfl (lv_at hl 0 rfl) ?_
  refine lv_iconst (v := 1) hx hb dX6_cupAt_1 (by decide) ?_
  refine lv_iload_n hx hb dX6_cupAt_2 rfl (lv_at hl 1 rfl) ?_
  obtain ⟨r2, w3, hq1, hf⟩ := qbd2_s hf
  refine q_callVi hC hR (mX6_placed (qJ hC) hq1) (by decide) (qsh_238 G ad _) rfl qk_1393 qk_1395 qk_42 qk_64 qk_1396 qhd_X6_placed ⟨Nat.le_of_ble_eq_true rfl, Nat.le_of_ble_eq_true rfl⟩ hl.1 rfl (Nat.le_of_ble_eq_true rfl) dX6_cupAt_3 ⟨Nat.zero_le _, Nat.zero_le _⟩ (fun H locs hR => ?_)
  exact q_iret hC hR hr rfl (qso2 hf).1 (qso2 hf).2 dX6_cupAt_6
-- X6.lampAt
def fX6_lampAt (w : qMem)  (a1 : Int32) : Option (Int32 × qMem) :=
  qbd2 (fX6_placed w 2 a1) fun (r2 : Int32) (w3 : qMem) =>
  some (r2, w3)
theorem qhd_X6_lampAt : yX6_lampAt.cls ≠ "java/lang/invoke/MethodHandle" ∧ yX6_lampAt.cls ≠ "java/lang/invoke/VarHandle" ∧ (parseMethodDescriptor yX6_lampAt.desc).map (fun d => d.parameters.length) = some 1 := ⟨by decide +kernel, by decide +kernel, by decide +kernel⟩
set_option maxHeartbeats 4000000 in
set_option maxRecDepth 100000 in
theorem mX6_lampAt {l : Launch} {D : va_G} {G : Nat → ClassId} {ad : Nat → Nat} (hJ : qInj ad) {w : qMem}   {a1 : Int32} {rF : Int32} {wF : qMem} (hf : fX6_lampAt w a1 = some (rF, wF)) : qCMi l D G ad yX6_lampAt cX6_lampAt 2 (some .int) 4 0 0 [.ref (ad 238), .int a1] w rF wF := by
  refine q_start RX6 rfl (by decide +kernel) hJ (fun a b h => by simp only [qQI, qQV, qQR, h]) (Nat.le_of_ble_eq_true rfl) ?_
  intro p e s m args below meth c0 ls hC hr hR hl
  have hx := hC.1
  have hb := hC.2.1
  have hl : lv_has ls 2 [(0, .ref (ad 238)), (1, .int a1)] := hl
  unfold fX6_lampAt at hf
  refine lv_aload_n hx hb dX6_lampAt_0 rfl (lv_at hl 0 rfl) ?_
  refine lv_iconst (v := 2) hx hb dX6_lampAt_1 (by decide) ?_
  refine lv_iload_n hx hb dX6_lampAt_2 rfl (lv_at hl 1 rfl) ?_
  obtain ⟨r2, w3, hq1, hf⟩ := qbd2_s hf
  refine q_callVi hC hR (mX6_placed (qJ hC) hq1) (by decide) (qsh_238 G ad _) rfl qk_1393 qk_1395 qk_42 qk_64 qk_1396 qhd_X6_placed ⟨Nat.le_of_ble_eq_true rfl, Nat.le_of_ble_eq_true rfl⟩ hl.1 rfl (Nat.le_of_ble_eq_true rfl) dX6_lampAt_3 ⟨Nat.zero_le _, Nat.zero_le _⟩ (fun H locs hR => ?_)
  exact q_iret hC hR hr rfl (qso2 hf).1 (qso2 hf).2 dX6_lampAt_6
-- X6.catAt
def fX6_catAt (w : qMem)  (a1 : Int32) : Option (Int32 × qMem) :=
  qbd2 (fX6_placed w 3 a1) fun (r2 : Int32) (w3 : qMem) =>
  some (r2, w3)
theorem qhd_X6_catAt : yX6_catAt.cls ≠ "java/lang/invoke/MethodHandle" ∧ yX6_catAt.cls ≠ "java/lang/invoke/VarHandle" ∧ (parseMethodDescriptor yX6_catAt.desc).map (fun d => d.parameters.length) = some 1 := ⟨by decide +kernel, by decide +kernel, by decide +kernel⟩
set_option maxHeartbeats 4000000 in
set_option maxRecDepth 100000 in
theorem mX6_catAt {l : Launch} {D : va_G} {G : Nat → ClassId} {ad : Nat → Nat} (hJ : qInj ad) {w : qMem}   {a1 : Int32} {rF : Int32} {wF : qMem} (hf : fX6_catAt w a1 = some (rF, wF)) : qCMi l D G ad yX6_catAt cX6_catAt 2 (some .int) 4 0 0 [.ref (ad 238), .int a1] w rF wF := by
  refine q_start RX6 rfl (by decide +kernel) hJ (fun a b h => by simp only [qQI, qQV, qQR, h]) (Nat.le_of_ble_eq_true rfl) ?_
  intro p e s m args below meth c0 ls hC hr hR hl
  have hx := hC.1
  have hb := hC.2.1
  have hl : lv_has ls 2 [(0, .ref (ad 238)), (1, .int a1)] := hl
  unfold fX6_catAt at hf
  refine lv_aload_n hx hb dX6_catAt_0 rfl (lv_at hl 0 rfl) ?_
  refine lv_iconst (v := 3) hx hb dX6_catAt_1 (by decide) ?_
  refine lv_iload_n hx hb dX6_catAt_2 rfl (lv_at hl 1 rfl) ?_
  obtain ⟨r2, w3, hq1, hf⟩ := qbd2_s hf
  refine q_callVi hC hR (mX6_placed (qJ hC) hq1) (by decide) (qsh_238 G ad _) rfl qk_1393 qk_1395 qk_42 qk_64 qk_1396 qhd_X6_placed ⟨Nat.le_of_ble_eq_true rfl, Nat.le_of_ble_eq_true rfl⟩ hl.1 rfl (Nat.le_of_ble_eq_true rfl) dX6_catAt_3 ⟨Nat.zero_le _, Nat.zero_le _⟩ (fun H locs hR => ?_)
  exact q_iret hC hR hr rfl (qso2 hf).1 (qso2 hf).2 dX6_catAt_6
-- X6.onFloor
def fX6_onFloor_L21   (w : qMem) (x1 : Int32) (x2 : Int32) : Option (Int32 × qMem) :=
  qnm (quw w 238 7 1) fun (w4 : qMem) =>
  if w4 238 7 ≤ 0 then
    qbd (fX6_there w4 x1 x2) fun (r7 : Int32) =>
    some (r7, w4)
  else
    some (0, w4)
set_option maxHeartbeats 4000000 in
set_option maxRecDepth 100000 in
theorem mX6_onFloor_L21 {p : Program} {l : Launch} {e : Env} {s : State} {m : MethodId} {args : Array Value} {below : List Frame} {meth : Method} {c0 : Code} {D : va_G} {G : Nat → ClassId} {ad : Nat → Nat}   {rF : Int32} {wF : qMem}  (hC : qCx p c0 cX6_onFloor 3 s m args meth RX6 D G ad) (hr : meth.sig.returnType = some .int)  : ∀ (w : qMem) (x1 : Int32) (x2 : Int32) (H : Heap) (locs : List Loc) (ls : Array Slot), fX6_onFloor_L21 w x1 x2 = some (rF, wF) → qRp D G ad s w H locs → lv_has ls 3 [(0, .ref (ad 238)), (1, .int x1), (2, .int x2)] → W p l e (qrm 3 0 0) s m args below meth c0 H locs 0 0 (MQ below (qQI D G ad s wF rF) args s 0 0 (qAdr ad s.heap.size)) (F0 m 21 ls [.ref (ad 238)]) := by
  have hx := hC.1
  have hb := hC.2.1
  intro w x1 x2 H locs ls hf hR hl
  unfold fX6_onFloor_L21 at hf
  refine lv_iconst (v := 1) hx hb dX6_onFloor_21 (by decide) ?_
  refine qput_X6_7 hC hR qk_1132 ⟨rfl, rfl⟩ dX6_onFloor_22 (fun w4 H locs ew4 hR => ?_)
  have hf := qnm_t hf ew4
  refine lv_aload_n hx hb dX6_onFloor_25 rfl (lv_at hl 0 rfl) ?_
  refine qget_X6_7 hC hR qk_1132 dX6_onFloor_26 ?_
  refine lv_if_le (tgt := 36) hx hb dX6_onFloor_29 (by decide) (fun c_5 => ?_) (fun c_5 => ?_)
  · have hf := qif_t hf c_5
    refine lv_aload_n hx hb dX6_onFloor_36 rfl (lv_at hl 0 rfl) ?_
    refine lv_iload_n hx hb dX6_onFloor_37 rfl (lv_at hl 1 rfl) ?_
    refine lv_iload_n hx hb dX6_onFloor_38 rfl (lv_at hl 2 rfl) ?_
    obtain ⟨r7, hq6, hf⟩ := qbd_s hf
    refine q_callVi hC hR (mX6_there (qJ hC) hq6) (by decide) (qsh_238 G ad _) rfl qk_1226 qk_1228 qk_22 qk_64 qk_1229 qhd_X6_there ⟨Nat.le_of_ble_eq_true rfl, Nat.le_of_ble_eq_true rfl⟩ hl.1 rfl (Nat.le_of_ble_eq_true rfl) dX6_onFloor_39 ⟨Nat.zero_le _, Nat.zero_le _⟩ (fun H locs hR => ?_)
    exact q_iret hC hR hr rfl (qso2 hf).1 (qso2 hf).2 dX6_onFloor_42
  · have hf := qif_f hf c_5
    refine lv_iconst (v := 0) hx hb dX6_onFloor_32 (by decide) ?_
    refine lv_goto (tgt := 42) hx hb dX6_onFloor_33 (by decide) ?_
    exact q_iret hC hR hr rfl (qso2 hf).1 (qso2 hf).2 dX6_onFloor_42
def fX6_onFloor (w : qMem)  (a1 : Int32) (a2 : Int32) : Option (Int32 × qMem) :=
  qbd (fX6_in w a1 1 3) fun (r2 : Int32) =>
  if r2 = 0 then
    fX6_onFloor_L21 w a1 a2
  else
    qbd (fX6_isFloor w a2) fun (r9 : Int32) =>
    if r9 = 0 then
      fX6_onFloor_L21 w a1 a2
    else
      qnm (quw w 238 7 0) fun (w11 : qMem) =>
      if w11 238 7 ≤ 0 then
        qbd (fX6_there w11 a1 a2) fun (r14 : Int32) =>
        some (r14, w11)
      else
        some (0, w11)
theorem qhd_X6_onFloor : yX6_onFloor.cls ≠ "java/lang/invoke/MethodHandle" ∧ yX6_onFloor.cls ≠ "java/lang/invoke/VarHandle" ∧ (parseMethodDescriptor yX6_onFloor.desc).map (fun d => d.parameters.length) = some 2 := ⟨by decide +kernel, by decide +kernel, by decide +kernel⟩
set_option maxHeartbeats 4000000 in
set_option maxRecDepth 100000 in
theorem mX6_onFloor {l : Launch} {D : va_G} {G : Nat → ClassId} {ad : Nat → Nat} (hJ : qInj ad) {w : qMem}   {a1 : Int32} {a2 : Int32} {rF : Int32} {wF : qMem} (hf : fX6_onFloor w a1 a2 = some (rF, wF)) : qCMi l D G ad yX6_onFloor cX6_onFloor 3 (some .int) 3 0 0 [.ref (ad 238), .int a1, .int a2] w rF wF := by
  refine q_start RX6 rfl (by decide +kernel) hJ (fun a b h => by simp only [qQI, qQV, qQR, h]) (Nat.le_of_ble_eq_true rfl) ?_
  intro p e s m args below meth c0 ls hC hr hR hl
  have hx := hC.1
  have hb := hC.2.1
  have hl : lv_has ls 3 [(0, .ref (ad 238)), (1, .int a1), (2, .int a2)] := hl
  unfold fX6_onFloor at hf
  refine lv_aload_n hx hb dX6_onFloor_0 rfl (lv_at hl 0 rfl) ?_
  refine lv_iload_n hx hb dX6_onFloor_1 rfl (lv_at hl 1 rfl) ?_
  refine lv_iconst (v := 1) hx hb dX6_onFloor_2 (by decide) ?_
  refine lv_iconst (v := 3) hx hb dX6_onFloor_3 (by decide) ?_
  obtain ⟨r2, hq1, hf⟩ := qbd_s hf
  refine q_callSi hC hR (mX6_in (qJ hC) hq1) qk_1215 qk_1216 qk_64 qk_1217 qhd_X6_in ⟨Nat.le_of_ble_eq_true rfl, Nat.le_of_ble_eq_true rfl⟩ hl.1 rfl (Nat.le_of_ble_eq_true rfl) dX6_onFloor_4 ⟨Nat.zero_le _, Nat.zero_le _⟩ (fun H locs hR => ?_)
  refine lv_if_eq (tgt := 21) hx hb dX6_onFloor_7 (by decide) (fun c_3 => ?_) (fun c_3 => ?_)
  · have hf := qif_t hf c_3
    exact mX6_onFloor_L21 hC hr _ _ _ _ _ _ hf hR (lv_sub hl [0, 1, 2] rfl)
  · have hf := qif_f hf c_3
    refine lv_iload_n hx hb dX6_onFloor_10 rfl (lv_at hl 2 rfl) ?_
    obtain ⟨r9, hq8, hf⟩ := qbd_s hf
    refine q_callSi hC hR (mX6_isFloor (qJ hC) hq8) qk_1212 qk_1213 qk_64 qk_1214 qhd_X6_isFloor ⟨Nat.le_of_ble_eq_true rfl, Nat.le_of_ble_eq_true rfl⟩ hl.1 rfl (Nat.le_of_ble_eq_true rfl) dX6_onFloor_11 ⟨Nat.zero_le _, Nat.zero_le _⟩ (fun H locs hR => ?_)
    refine lv_if_eq (tgt := 21) hx hb dX6_onFloor_14 (by decide) (fun c_10 => ?_) (fun c_10 => ?_)
    · have hf := qif_t hf c_10
      exact mX6_onFloor_L21 hC hr _ _ _ _ _ _ hf hR (lv_sub hl [0, 1, 2] rfl)
    · have hf := qif_f hf c_10
      refine lv_iconst (v := 0) hx hb dX6_onFloor_17 (by decide) ?_
      refine lv_goto (tgt := 22) hx hb dX6_onFloor_18 (by decide) ?_
      refine qput_X6_7 hC hR qk_1132 ⟨rfl, rfl⟩ dX6_onFloor_22 (fun w11 H locs ew11 hR => ?_)
      have hf := qnm_t hf ew11
      refine lv_aload_n hx hb dX6_onFloor_25 rfl (lv_at hl 0 rfl) ?_
      refine qget_X6_7 hC hR qk_1132 dX6_onFloor_26 ?_
      refine lv_if_le (tgt := 36) hx hb dX6_onFloor_29 (by decide) (fun c_12 => ?_) (fun c_12 => ?_)
      · have hf := qif_t hf c_12
        refine lv_aload_n hx hb dX6_onFloor_36 rfl (lv_at hl 0 rfl) ?_
        refine lv_iload_n hx hb dX6_onFloor_37 rfl (lv_at hl 1 rfl) ?_
        refine lv_iload_n hx hb dX6_onFloor_38 rfl (lv_at hl 2 rfl) ?_
        obtain ⟨r14, hq13, hf⟩ := qbd_s hf
        refine q_callVi hC hR (mX6_there (qJ hC) hq13) (by decide) (qsh_238 G ad _) rfl qk_1226 qk_1228 qk_22 qk_64 qk_1229 qhd_X6_there ⟨Nat.le_of_ble_eq_true rfl, Nat.le_of_ble_eq_true rfl⟩ hl.1 rfl (Nat.le_of_ble_eq_true rfl) dX6_onFloor_39 ⟨Nat.zero_le _, Nat.zero_le _⟩ (fun H locs hR => ?_)
        exact q_iret hC hR hr rfl (qso2 hf).1 (qso2 hf).2 dX6_onFloor_42
      · have hf := qif_f hf c_12
        refine lv_iconst (v := 0) hx hb dX6_onFloor_32 (by decide) ?_
        refine lv_goto (tgt := 42) hx hb dX6_onFloor_33 (by decide) ?_
        exact q_iret hC hR hr rfl (qso2 hf).1 (qso2 hf).2 dX6_onFloor_42
-- X6.says
def fX6_says (w : qMem)  (a1 : Int32) : Option (qMem) :=
  if qin (w 238 13) 40 = true then
  if qisC a1 = true then
  qnm (quw w 244 (w 238 13).toNatClampNeg a1) fun (w3 : qMem) =>
  qnm (quw w3 238 13 ((w3 238 13) + 1)) fun (w4 : qMem) =>
  some w4
  else none
  else none
theorem qhd_X6_says : yX6_says.cls ≠ "java/lang/invoke/MethodHandle" ∧ yX6_says.cls ≠ "java/lang/invoke/VarHandle" ∧ (parseMethodDescriptor yX6_says.desc).map (fun d => d.parameters.length) = some 1 := ⟨by decide +kernel, by decide +kernel, by decide +kernel⟩
set_option maxHeartbeats 4000000 in
set_option maxRecDepth 100000 in
theorem mX6_says {l : Launch} {D : va_G} {G : Nat → ClassId} {ad : Nat → Nat} (hJ : qInj ad) {w : qMem}   {a1 : Int32} {wF : qMem} (hf : fX6_says w a1 = some wF) : qCMv l D G ad yX6_says cX6_says 2 (none) 1 0 0 [.ref (ad 238), .int a1] w wF := by
  refine q_start RX6 rfl (by decide +kernel) hJ (fun a b h => by simp only [qQI, qQV, qQR, h]) (Nat.le_of_ble_eq_true rfl) ?_
  intro p e s m args below meth c0 ls hC hr hR hl
  have hx := hC.1
  have hb := hC.2.1
  have hl : lv_has ls 2 [(0, .ref (ad 238)), (1, .int a1)] := hl
  unfold fX6_says at hf
  refine lv_aload_n hx hb dX6_says_0 rfl (lv_at hl 0 rfl) ?_
  refine qget_X6_12 hC hR qk_1137 dX6_says_1 ?_
  refine lv_aload_n hx hb dX6_says_4 rfl (lv_at hl 0 rfl) ?_
  refine qget_X6_13 hC hR qk_1138 dX6_says_5 ?_
  refine lv_iload_n hx hb dX6_says_8 rfl (lv_at hl 1 rfl) ?_
  obtain ⟨g1, hf⟩ := qgd hf
  obtain ⟨g2, hf⟩ := qgd hf
  refine q_cst hC hR (j := (w 238 13).toNatClampNeg) (by decide) (fun f => qsh_244 G ad f) g1 rfl g2 dX6_says_9 (fun w3 H locs ew3 hR => ?_)
  have hf := qnm_t hf ew3
  refine lv_aload_n hx hb dX6_says_10 rfl (lv_at hl 0 rfl) ?_
  refine lv_dup hx hb dX6_says_11 rfl ?_
  refine qget_X6_13 hC hR qk_1138 dX6_says_12 ?_
  refine lv_iconst (v := 1) hx hb dX6_says_15 (by decide) ?_
  refine lv_iadd hx hb dX6_says_16 ?_
  refine qput_X6_13 hC hR qk_1138 ⟨rfl, rfl⟩ dX6_says_17 (fun w4 H locs ew4 hR => ?_)
  have hf := qnm_t hf ew4
  exact q_vret hC hR hr (qso hf) dX6_says_20
-- X6.character
def fX6_character (w : qMem)  (a1 : Int32) : Option (Int32 × qMem) :=
  qbd (fX6_in w a1 0 ((w 238 13) - 1)) fun (r2 : Int32) =>
  if r2 = 0 then
    qnm (quw w 238 7 1) fun (w4 : qMem) =>
    if w4 238 7 ≤ 0 then
      if qin a1 40 = true then
      if qisC (w4 244 (a1).toNatClampNeg) = true then
      some (w4 244 (a1).toNatClampNeg, w4)
      else none
      else none
    else
      some (32, w4)
  else
    qnm (quw w 238 7 0) fun (w8 : qMem) =>
    if w8 238 7 ≤ 0 then
      if qin a1 40 = true then
      if qisC (w8 244 (a1).toNatClampNeg) = true then
      some (w8 244 (a1).toNatClampNeg, w8)
      else none
      else none
    else
      some (32, w8)
theorem qhd_X6_character : yX6_character.cls ≠ "java/lang/invoke/MethodHandle" ∧ yX6_character.cls ≠ "java/lang/invoke/VarHandle" ∧ (parseMethodDescriptor yX6_character.desc).map (fun d => d.parameters.length) = some 1 := ⟨by decide +kernel, by decide +kernel, by decide +kernel⟩
set_option maxHeartbeats 4000000 in
set_option maxRecDepth 100000 in
theorem mX6_character {l : Launch} {D : va_G} {G : Nat → ClassId} {ad : Nat → Nat} (hJ : qInj ad) {w : qMem}   {a1 : Int32} {rF : Int32} {wF : qMem} (hf : fX6_character w a1 = some (rF, wF)) : qCMi l D G ad yX6_character cX6_character 2 (some .char) 2 0 0 [.ref (ad 238), .int a1] w rF wF := by
  refine q_start RX6 rfl (by decide +kernel) hJ (fun a b h => by simp only [qQI, qQV, qQR, h]) (Nat.le_of_ble_eq_true rfl) ?_
  intro p e s m args below meth c0 ls hC hr hR hl
  have hx := hC.1
  have hb := hC.2.1
  have hl : lv_has ls 2 [(0, .ref (ad 238)), (1, .int a1)] := hl
  unfold fX6_character at hf
  refine lv_aload_n hx hb dX6_character_0 rfl (lv_at hl 0 rfl) ?_
  refine lv_iload_n hx hb dX6_character_1 rfl (lv_at hl 1 rfl) ?_
  refine lv_iconst (v := 0) hx hb dX6_character_2 (by decide) ?_
  refine lv_aload_n hx hb dX6_character_3 rfl (lv_at hl 0 rfl) ?_
  refine qget_X6_13 hC hR qk_1138 dX6_character_4 ?_
  refine lv_iconst (v := 1) hx hb dX6_character_7 (by decide) ?_
  refine lv_isub hx hb dX6_character_8 ?_
  obtain ⟨r2, hq1, hf⟩ := qbd_s hf
  refine q_callSi hC hR (mX6_in (qJ hC) hq1) qk_1215 qk_1216 qk_64 qk_1217 qhd_X6_in ⟨Nat.le_of_ble_eq_true rfl, Nat.le_of_ble_eq_true rfl⟩ hl.1 rfl (Nat.le_of_ble_eq_true rfl) dX6_character_9 ⟨Nat.zero_le _, Nat.zero_le _⟩ (fun H locs hR => ?_)
  refine lv_if_eq (tgt := 19) hx hb dX6_character_12 (by decide) (fun c_3 => ?_) (fun c_3 => ?_)
  · have hf := qif_t hf c_3
    refine lv_iconst (v := 1) hx hb dX6_character_19 (by decide) ?_
    refine qput_X6_7 hC hR qk_1132 ⟨rfl, rfl⟩ dX6_character_20 (fun w4 H locs ew4 hR => ?_)
    have hf := qnm_t hf ew4
    refine lv_aload_n hx hb dX6_character_23 rfl (lv_at hl 0 rfl) ?_
    refine qget_X6_7 hC hR qk_1132 dX6_character_24 ?_
    refine lv_if_le (tgt := 35) hx hb dX6_character_27 (by decide) (fun c_5 => ?_) (fun c_5 => ?_)
    · have hf := qif_t hf c_5
      refine lv_aload_n hx hb dX6_character_35 rfl (lv_at hl 0 rfl) ?_
      refine qget_X6_12 hC hR qk_1137 dX6_character_36 ?_
      refine lv_iload_n hx hb dX6_character_39 rfl (lv_at hl 1 rfl) ?_
      obtain ⟨g6, hf⟩ := qgd hf
      refine q_cld hC hR (j := (a1).toNatClampNeg) (by decide) (qsh_244 G ad _) g6 rfl dX6_character_40 ?_
      obtain ⟨g7, hf⟩ := qgd hf
      exact q_iret hC hR hr (qisC_ok g7).1 (qso2 hf).1 (qso2 hf).2 dX6_character_41
    · have hf := qif_f hf c_5
      refine lv_bipush (v := 32) hx hb dX6_character_30 (by decide) ?_
      refine lv_goto (tgt := 41) hx hb dX6_character_32 (by decide) ?_
      exact q_iret hC hR hr (by decide) (qso2 hf).1 (qso2 hf).2 dX6_character_41
  · have hf := qif_f hf c_3
    refine lv_iconst (v := 0) hx hb dX6_character_15 (by decide) ?_
    refine lv_goto (tgt := 20) hx hb dX6_character_16 (by decide) ?_
    refine qput_X6_7 hC hR qk_1132 ⟨rfl, rfl⟩ dX6_character_20 (fun w8 H locs ew8 hR => ?_)
    have hf := qnm_t hf ew8
    refine lv_aload_n hx hb dX6_character_23 rfl (lv_at hl 0 rfl) ?_
    refine qget_X6_7 hC hR qk_1132 dX6_character_24 ?_
    refine lv_if_le (tgt := 35) hx hb dX6_character_27 (by decide) (fun c_9 => ?_) (fun c_9 => ?_)
    · have hf := qif_t hf c_9
      refine lv_aload_n hx hb dX6_character_35 rfl (lv_at hl 0 rfl) ?_
      refine qget_X6_12 hC hR qk_1137 dX6_character_36 ?_
      refine lv_iload_n hx hb dX6_character_39 rfl (lv_at hl 1 rfl) ?_
      obtain ⟨g10, hf⟩ := qgd hf
      refine q_cld hC hR (j := (a1).toNatClampNeg) (by decide) (qsh_244 G ad _) g10 rfl dX6_character_40 ?_
      obtain ⟨g11, hf⟩ := qgd hf
      exact q_iret hC hR hr (qisC_ok g11).1 (qso2 hf).1 (qso2 hf).2 dX6_character_41
    · have hf := qif_f hf c_9
      refine lv_bipush (v := 32) hx hb dX6_character_30 (by decide) ?_
      refine lv_goto (tgt := 41) hx hb dX6_character_32 (by decide) ?_
      exact q_iret hC hR hr (by decide) (qso2 hf).1 (qso2 hf).2 dX6_character_41
-- X6.append
def fX6_append_L15   (w : qMem) (x1 : Int32) (s0 : Int32) : Option (Int32 × qMem) :=
  qnm (quw w 238 7 s0) fun (w2 : qMem) =>
  if w2 238 7 ≤ 0 then
    if qin (w2 238 15) 60 = true then
    if qisC x1 = true then
    qnm (quw w2 245 (w2 238 15).toNatClampNeg x1) fun (w6 : qMem) =>
    qnm (quw w6 238 15 ((w6 238 15) + 1)) fun (w7 : qMem) =>
    some (w7 238 15, w7)
    else none
    else none
  else
    some (0, w2)
set_option maxHeartbeats 4000000 in
set_option maxRecDepth 100000 in
theorem mX6_append_L15 {p : Program} {l : Launch} {e : Env} {s : State} {m : MethodId} {args : Array Value} {below : List Frame} {meth : Method} {c0 : Code} {D : va_G} {G : Nat → ClassId} {ad : Nat → Nat}   {rF : Int32} {wF : qMem}  (hC : qCx p c0 cX6_append 2 s m args meth RX6 D G ad) (hr : meth.sig.returnType = some .int)  : ∀ (w : qMem) (x1 : Int32) (s0 : Int32) (H : Heap) (locs : List Loc) (ls : Array Slot), fX6_append_L15 w x1 s0 = some (rF, wF) → qRp D G ad s w H locs → lv_has ls 2 [(0, .ref (ad 238)), (1, .int x1)] → W p l e (qrm 1 0 0) s m args below meth c0 H locs 0 0 (MQ below (qQI D G ad s wF rF) args s 0 0 (qAdr ad s.heap.size)) (F0 m 15 ls [.int s0, .ref (ad 238)]) := by
  have hx := hC.1
  have hb := hC.2.1
  intro w x1 s0 H locs ls hf hR hl
  unfold fX6_append_L15 at hf
  refine qput_X6_7 hC hR qk_1132 ⟨rfl, rfl⟩ dX6_append_15 (fun w2 H locs ew2 hR => ?_)
  have hf := qnm_t hf ew2
  refine lv_aload_n hx hb dX6_append_18 rfl (lv_at hl 0 rfl) ?_
  refine qget_X6_7 hC hR qk_1132 dX6_append_19 ?_
  refine lv_if_le (tgt := 27) hx hb dX6_append_22 (by decide) (fun c_3 => ?_) (fun c_3 => ?_)
  · have hf := qif_t hf c_3
    refine lv_aload_n hx hb dX6_append_27 rfl (lv_at hl 0 rfl) ?_
    refine qget_X6_14 hC hR qk_1139 dX6_append_28 ?_
    refine lv_aload_n hx hb dX6_append_31 rfl (lv_at hl 0 rfl) ?_
    refine qget_X6_15 hC hR qk_1140 dX6_append_32 ?_
    refine lv_iload_n hx hb dX6_append_35 rfl (lv_at hl 1 rfl) ?_
    obtain ⟨g4, hf⟩ := qgd hf
    obtain ⟨g5, hf⟩ := qgd hf
    refine q_cst hC hR (j := (w2 238 15).toNatClampNeg) (by decide) (fun f => qsh_245 G ad f) g4 rfl g5 dX6_append_36 (fun w6 H locs ew6 hR => ?_)
    have hf := qnm_t hf ew6
    refine lv_aload_n hx hb dX6_append_37 rfl (lv_at hl 0 rfl) ?_
    refine lv_dup hx hb dX6_append_38 rfl ?_
    refine qget_X6_15 hC hR qk_1140 dX6_append_39 ?_
    refine lv_iconst (v := 1) hx hb dX6_append_42 (by decide) ?_
    refine lv_iadd hx hb dX6_append_43 ?_
    refine qput_X6_15 hC hR qk_1140 ⟨rfl, rfl⟩ dX6_append_44 (fun w7 H locs ew7 hR => ?_)
    have hf := qnm_t hf ew7
    refine lv_aload_n hx hb dX6_append_47 rfl (lv_at hl 0 rfl) ?_
    refine qget_X6_15 hC hR qk_1140 dX6_append_48 ?_
    exact q_iret hC hR hr rfl (qso2 hf).1 (qso2 hf).2 dX6_append_51
  · have hf := qif_f hf c_3
    refine lv_iconst (v := 0) hx hb dX6_append_25 (by decide) ?_
    exact q_iret hC hR hr rfl (qso2 hf).1 (qso2 hf).2 dX6_append_26
def fX6_append (w : qMem)  (a1 : Int32) : Option (Int32 × qMem) :=
  if w 238 15 = 60 then
    fX6_append_L15 w a1 1
  else
    fX6_append_L15 w a1 0
theorem qhd_X6_append : yX6_append.cls ≠ "java/lang/invoke/MethodHandle" ∧ yX6_append.cls ≠ "java/lang/invoke/VarHandle" ∧ (parseMethodDescriptor yX6_append.desc).map (fun d => d.parameters.length) = some 1 := ⟨by decide +kernel, by decide +kernel, by decide +kernel⟩
set_option maxHeartbeats 4000000 in
set_option maxRecDepth 100000 in
theorem mX6_append {l : Launch} {D : va_G} {G : Nat → ClassId} {ad : Nat → Nat} (hJ : qInj ad) {w : qMem}   {a1 : Int32} {rF : Int32} {wF : qMem} (hf : fX6_append w a1 = some (rF, wF)) : qCMi l D G ad yX6_append cX6_append 2 (some .int) 1 0 0 [.ref (ad 238), .int a1] w rF wF := by
  refine q_start RX6 rfl (by decide +kernel) hJ (fun a b h => by simp only [qQI, qQV, qQR, h]) (Nat.le_of_ble_eq_true rfl) ?_
  intro p e s m args below meth c0 ls hC hr hR hl
  have hx := hC.1
  have hb := hC.2.1
  have hl : lv_has ls 2 [(0, .ref (ad 238)), (1, .int a1)] := hl
  unfold fX6_append at hf
  refine lv_aload_n hx hb dX6_append_0 rfl (lv_at hl 0 rfl) ?_
  refine lv_aload_n hx hb dX6_append_1 rfl (lv_at hl 0 rfl) ?_
  refine qget_X6_15 hC hR qk_1140 dX6_append_2 ?_
  refine lv_bipush (v := 60) hx hb dX6_append_5 (by decide) ?_
  refine lv_icmp_ne (tgt := 14) hx hb dX6_append_7 (by decide) (fun c_1 => ?_) (fun c_1 => ?_)
  · have hf := qif_f hf c_1
    refine lv_iconst (v := 0) hx hb dX6_append_14 (by decide) ?_
    exact mX6_append_L15 hC hr _ _ _ _ _ _ hf hR (lv_sub hl [0, 1] rfl)
  · have hf := qif_t hf c_1
    refine lv_iconst (v := 1) hx hb dX6_append_10 (by decide) ?_
    refine lv_goto (tgt := 15) hx hb dX6_append_11 (by decide) ?_
    exact mX6_append_L15 hC hr _ _ _ _ _ _ hf hR (lv_sub hl [0, 1] rfl)
-- X6.isHere
def fX6_isHere (w : qMem)  (a1 : Int32) (a2 : Int32) : Option (Int32) :=
  if w 238 17 = 0 then
    if w 238 15 ≤ w 238 16 then
      some (0)
    else
      if qin (w 238 16) 60 = true then
      qbd (fX6_in w (w 245 (w 238 16).toNatClampNeg) a1 a2) fun (r5 : Int32) =>
      if r5 = 0 then
        some (0)
      else
        some (1)
      else none
  else
    some (0)
theorem qhd_X6_isHere : yX6_isHere.cls ≠ "java/lang/invoke/MethodHandle" ∧ yX6_isHere.cls ≠ "java/lang/invoke/VarHandle" ∧ (parseMethodDescriptor yX6_isHere.desc).map (fun d => d.parameters.length) = some 2 := ⟨by decide +kernel, by decide +kernel, by decide +kernel⟩
set_option maxHeartbeats 4000000 in
set_option maxRecDepth 100000 in
theorem mX6_isHere {l : Launch} {D : va_G} {G : Nat → ClassId} {ad : Nat → Nat} (hJ : qInj ad) {w : qMem}   {a1 : Int32} {a2 : Int32} {rF : Int32} (hf : fX6_isHere w a1 a2 = some rF) : qCMi l D G ad yX6_isHere cX6_isHere 3 (some .boolean) 2 0 0 [.ref (ad 238), .int a1, .int a2] w rF w := by
  refine q_start RX6 rfl (by decide +kernel) hJ (fun a b h => by simp only [qQI, qQV, qQR, h]) (Nat.le_of_ble_eq_true rfl) ?_
  intro p e s m args below meth c0 ls hC hr hR hl
  have hx := hC.1
  have hb := hC.2.1
  have hl : lv_has ls 3 [(0, .ref (ad 238)), (1, .int a1), (2, .int a2)] := hl
  unfold fX6_isHere at hf
  refine lv_aload_n hx hb dX6_isHere_0 rfl (lv_at hl 0 rfl) ?_
  refine qget_X6_17 hC hR qk_1142 dX6_isHere_1 ?_
  refine lv_if_ne (tgt := 39) hx hb dX6_isHere_4 (by decide) (fun c_1 => ?_) (fun c_1 => ?_)
  · have hf := qif_f hf c_1
    refine lv_iconst (v := 0) hx hb dX6_isHere_39 (by decide) ?_
    exact q_iret hC hR hr (by decide) (qso hf) rfl dX6_isHere_40
  · have hf := qif_t hf c_1
    refine lv_aload_n hx hb dX6_isHere_7 rfl (lv_at hl 0 rfl) ?_
    refine qget_X6_16 hC hR qk_1141 dX6_isHere_8 ?_
    refine lv_aload_n hx hb dX6_isHere_11 rfl (lv_at hl 0 rfl) ?_
    refine qget_X6_15 hC hR qk_1140 dX6_isHere_12 ?_
    refine lv_icmp_ge (tgt := 39) hx hb dX6_isHere_15 (by decide) (fun c_2 => ?_) (fun c_2 => ?_)
    · have hf := qif_t hf c_2
      refine lv_iconst (v := 0) hx hb dX6_isHere_39 (by decide) ?_
      exact q_iret hC hR hr (by decide) (qso hf) rfl dX6_isHere_40
    · have hf := qif_f hf c_2
      refine lv_aload_n hx hb dX6_isHere_18 rfl (lv_at hl 0 rfl) ?_
      refine qget_X6_14 hC hR qk_1139 dX6_isHere_19 ?_
      refine lv_aload_n hx hb dX6_isHere_22 rfl (lv_at hl 0 rfl) ?_
      refine qget_X6_16 hC hR qk_1141 dX6_isHere_23 ?_
      obtain ⟨g3, hf⟩ := qgd hf
      refine q_cld hC hR (j := (w 238 16).toNatClampNeg) (by decide) (qsh_245 G ad _) g3 rfl dX6_isHere_26 ?_
      refine lv_iload_n hx hb dX6_isHere_27 rfl (lv_at hl 1 rfl) ?_
      refine lv_iload_n hx hb dX6_isHere_28 rfl (lv_at hl 2 rfl) ?_
      obtain ⟨r5, hq4, hf⟩ := qbd_s hf
      refine q_callSi hC hR (mX6_in (qJ hC) hq4) qk_1215 qk_1216 qk_64 qk_1217 qhd_X6_in ⟨Nat.le_of_ble_eq_true rfl, Nat.le_of_ble_eq_true rfl⟩ hl.1 rfl (Nat.le_of_ble_eq_true rfl) dX6_isHere_29 ⟨Nat.zero_le _, Nat.zero_le _⟩ (fun H locs hR => ?_)
      refine lv_if_eq (tgt := 39) hx hb dX6_isHere_32 (by decide) (fun c_6 => ?_) (fun c_6 => ?_)
      · have hf := qif_t hf c_6
        refine lv_iconst (v := 0) hx hb dX6_isHere_39 (by decide) ?_
        exact q_iret hC hR hr (by decide) (qso hf) rfl dX6_isHere_40
      · have hf := qif_f hf c_6
        refine lv_iconst (v := 1) hx hb dX6_isHere_35 (by decide) ?_
        refine lv_goto (tgt := 40) hx hb dX6_isHere_36 (by decide) ?_
        exact q_iret hC hR hr (by decide) (qso hf) rfl dX6_isHere_40
-- X6.sign
def fX6_sign_L22   (w : qMem) (x1 : Int32) (s0 : Int32) : Option (Int32 × qMem) :=
  if qisB s0 = true then
  qnm (quw w 238 17 s0) fun (w3 : qMem) =>
  if w3 238 17 = 0 then
    qnm (quw w3 238 16 ((w3 238 16) + 1)) fun (w5 : qMem) =>
    if qin ((w5 238 16) - 1) 60 = true then
    some ((w5 245 ((w5 238 16) - 1).toNatClampNeg) - x1, w5)
    else none
  else
    some (0, w3)
  else none
set_option maxHeartbeats 4000000 in
set_option maxRecDepth 100000 in
theorem mX6_sign_L22 {p : Program} {l : Launch} {e : Env} {s : State} {m : MethodId} {args : Array Value} {below : List Frame} {meth : Method} {c0 : Code} {D : va_G} {G : Nat → ClassId} {ad : Nat → Nat}   {rF : Int32} {wF : qMem}  (hC : qCx p c0 cX6_sign 3 s m args meth RX6 D G ad) (hr : meth.sig.returnType = some .int)  : ∀ (w : qMem) (x1 : Int32) (s0 : Int32) (H : Heap) (locs : List Loc) (ls : Array Slot), fX6_sign_L22 w x1 s0 = some (rF, wF) → qRp D G ad s w H locs → lv_has ls 3 [(0, .ref (ad 238)), (1, .int x1)] → W p l e (qrm 3 0 0) s m args below meth c0 H locs 0 0 (MQ below (qQI D G ad s wF rF) args s 0 0 (qAdr ad s.heap.size)) (F0 m 22 ls [.int s0, .ref (ad 238)]) := by
  have hx := hC.1
  have hb := hC.2.1
  intro w x1 s0 H locs ls hf hR hl
  unfold fX6_sign_L22 at hf
  obtain ⟨g2, hf⟩ := qgd hf
  refine qput_X6_17 hC hR qk_1142 (qisB_ok g2) dX6_sign_22 (fun w3 H locs ew3 hR => ?_)
  have hf := qnm_t hf ew3
  refine lv_aload_n hx hb dX6_sign_25 rfl (lv_at hl 0 rfl) ?_
  refine qget_X6_17 hC hR qk_1142 dX6_sign_26 ?_
  refine lv_if_eq (tgt := 34) hx hb dX6_sign_29 (by decide) (fun c_4 => ?_) (fun c_4 => ?_)
  · have hf := qif_t hf c_4
    refine lv_aload_n hx hb dX6_sign_34 rfl (lv_at hl 0 rfl) ?_
    refine lv_dup hx hb dX6_sign_35 rfl ?_
    refine qget_X6_16 hC hR qk_1141 dX6_sign_36 ?_
    refine lv_iconst (v := 1) hx hb dX6_sign_39 (by decide) ?_
    refine lv_iadd hx hb dX6_sign_40 ?_
    refine qput_X6_16 hC hR qk_1141 ⟨rfl, rfl⟩ dX6_sign_41 (fun w5 H locs ew5 hR => ?_)
    have hf := qnm_t hf ew5
    refine lv_aload_n hx hb dX6_sign_44 rfl (lv_at hl 0 rfl) ?_
    refine qget_X6_14 hC hR qk_1139 dX6_sign_45 ?_
    refine lv_aload_n hx hb dX6_sign_48 rfl (lv_at hl 0 rfl) ?_
    refine qget_X6_16 hC hR qk_1141 dX6_sign_49 ?_
    refine lv_iconst (v := 1) hx hb dX6_sign_52 (by decide) ?_
    refine lv_isub hx hb dX6_sign_53 ?_
    obtain ⟨g6, hf⟩ := qgd hf
    refine q_cld hC hR (j := ((w5 238 16) - 1).toNatClampNeg) (by decide) (qsh_245 G ad _) g6 rfl dX6_sign_54 ?_
    refine lv_iload_n hx hb dX6_sign_55 rfl (lv_at hl 1 rfl) ?_
    refine lv_isub hx hb dX6_sign_56 ?_
    exact q_iret hC hR hr rfl (qso2 hf).1 (qso2 hf).2 dX6_sign_57
  · have hf := qif_f hf c_4
    refine lv_iconst (v := 0) hx hb dX6_sign_32 (by decide) ?_
    exact q_iret hC hR hr rfl (qso2 hf).1 (qso2 hf).2 dX6_sign_33
def fX6_sign (w : qMem)  (a1 : Int32) (a2 : Int32) : Option (Int32 × qMem) :=
  if w 238 17 = 0 then
    qbd (fX6_isHere w a1 a2) fun (r8 : Int32) =>
    if r8 = 0 then
      fX6_sign_L22 w a1 1
    else
      fX6_sign_L22 w a1 0
  else
    fX6_sign_L22 w a1 1
theorem qhd_X6_sign : yX6_sign.cls ≠ "java/lang/invoke/MethodHandle" ∧ yX6_sign.cls ≠ "java/lang/invoke/VarHandle" ∧ (parseMethodDescriptor yX6_sign.desc).map (fun d => d.parameters.length) = some 2 := ⟨by decide +kernel, by decide +kernel, by decide +kernel⟩
set_option maxHeartbeats 4000000 in
set_option maxRecDepth 100000 in
theorem mX6_sign {l : Launch} {D : va_G} {G : Nat → ClassId} {ad : Nat → Nat} (hJ : qInj ad) {w : qMem}   {a1 : Int32} {a2 : Int32} {rF : Int32} {wF : qMem} (hf : fX6_sign w a1 a2 = some (rF, wF)) : qCMi l D G ad yX6_sign cX6_sign 3 (some .int) 3 0 0 [.ref (ad 238), .int a1, .int a2] w rF wF := by
  refine q_start RX6 rfl (by decide +kernel) hJ (fun a b h => by simp only [qQI, qQV, qQR, h]) (Nat.le_of_ble_eq_true rfl) ?_
  intro p e s m args below meth c0 ls hC hr hR hl
  have hx := hC.1
  have hb := hC.2.1
  have hl : lv_has ls 3 [(0, .ref (ad 238)), (1, .int a1), (2, .int a2)] := hl
  unfold fX6_sign at hf
  refine lv_aload_n hx hb dX6_sign_0 rfl (lv_at hl 0 rfl) ?_
  refine lv_aload_n hx hb dX6_sign_1 rfl (lv_at hl 0 rfl) ?_
  refine qget_X6_17 hC hR qk_1142 dX6_sign_2 ?_
  refine lv_if_ne (tgt := 17) hx hb dX6_sign_5 (by decide) (fun c_1 => ?_) (fun c_1 => ?_)
  · have hf := qif_f hf c_1
    refine lv_iconst (v := 1) hx hb dX6_sign_17 (by decide) ?_
    refine lv_goto (tgt := 22) hx hb dX6_sign_18 (by decide) ?_
    exact mX6_sign_L22 hC hr _ _ _ _ _ _ hf hR (lv_sub hl [0, 1] rfl)
  · have hf := qif_t hf c_1
    refine lv_aload_n hx hb dX6_sign_8 rfl (lv_at hl 0 rfl) ?_
    refine lv_iload_n hx hb dX6_sign_9 rfl (lv_at hl 1 rfl) ?_
    refine lv_iload_n hx hb dX6_sign_10 rfl (lv_at hl 2 rfl) ?_
    obtain ⟨r8, hq7, hf⟩ := qbd_s hf
    refine q_callVi hC hR (mX6_isHere (qJ hC) hq7) (by decide) (qsh_238 G ad _) rfl qk_1742 qk_1744 qk_52 qk_64 qk_1745 qhd_X6_isHere ⟨Nat.le_of_ble_eq_true rfl, Nat.le_of_ble_eq_true rfl⟩ hl.1 rfl (Nat.le_of_ble_eq_true rfl) dX6_sign_11 ⟨Nat.zero_le _, Nat.zero_le _⟩ (fun H locs hR => ?_)
    refine lv_if_ne (tgt := 21) hx hb dX6_sign_14 (by decide) (fun c_9 => ?_) (fun c_9 => ?_)
    · have hf := qif_f hf c_9
      refine lv_iconst (v := 0) hx hb dX6_sign_21 (by decide) ?_
      exact mX6_sign_L22 hC hr _ _ _ _ _ _ hf hR (lv_sub hl [0, 1] rfl)
    · have hf := qif_t hf c_9
      refine lv_iconst (v := 1) hx hb dX6_sign_17 (by decide) ?_
      refine lv_goto (tgt := 22) hx hb dX6_sign_18 (by decide) ?_
      exact mX6_sign_L22 hC hr _ _ _ _ _ _ hf hR (lv_sub hl [0, 1] rfl)
-- X6.digit
def fX6_digit (w : qMem)   : Option (Int32 × qMem) :=
  qbd2 (fX6_sign w 48 57) fun (r2 : Int32) (w3 : qMem) =>
  some (r2, w3)
theorem qhd_X6_digit : yX6_digit.cls ≠ "java/lang/invoke/MethodHandle" ∧ yX6_digit.cls ≠ "java/lang/invoke/VarHandle" ∧ (parseMethodDescriptor yX6_digit.desc).map (fun d => d.parameters.length) = some 0 := ⟨by decide +kernel, by decide +kernel, by decide +kernel⟩
set_option maxHeartbeats 4000000 in
set_option maxRecDepth 100000 in
theorem mX6_digit {l : Launch} {D : va_G} {G : Nat → ClassId} {ad : Nat → Nat} (hJ : qInj ad) {w : qMem}    {rF : Int32} {wF : qMem} (hf : fX6_digit w = some (rF, wF)) : qCMi l D G ad yX6_digit cX6_digit 1 (some .int) 4 0 0 [.ref (ad 238)] w rF wF := by
  refine q_start RX6 rfl (by decide +kernel) hJ (fun a b h => by simp only [qQI, qQV, qQR, h]) (Nat.le_of_ble_eq_true rfl) ?_
  intro p e s m args below meth c0 ls hC hr hR hl
  have hx := hC.1
  have hb := hC.2.1
  have hl : lv_has ls 1 [(0, .ref (ad 238))] := hl
  unfold fX6_digit at hf
  refine lv_aload_n hx hb dX6_digit_0 rfl (lv_at hl 0 rfl) ?_
  refine lv_bipush (v := 48) hx hb dX6_digit_1 (by decide) ?_
  refine lv_bipush (v := 57) hx hb dX6_digit_3 (by decide) ?_
  obtain ⟨r2, w3, hq1, hf⟩ := qbd2_s hf
  refine q_callVi hC hR (mX6_sign (qJ hC) hq1) (by decide) (qsh_238 G ad _) rfl qk_1738 qk_1740 qk_51 qk_64 qk_1741 qhd_X6_sign ⟨Nat.le_of_ble_eq_true rfl, Nat.le_of_ble_eq_true rfl⟩ hl.1 rfl (Nat.le_of_ble_eq_true rfl) dX6_digit_5 ⟨Nat.zero_le _, Nat.zero_le _⟩ (fun H locs hR => ?_)
  exact q_iret hC hR hr rfl (qso2 hf).1 (qso2 hf).2 dX6_digit_8
-- X6.number
def fX6_number (w : qMem)   : Option (Int32 × qMem) :=
  qbd2 (fX6_digit w) fun (r2 : Int32) (w3 : qMem) =>
  qbd (fX6_isHere w3 48 57) fun (r5 : Int32) =>
  if r5 = 0 then
    some (r2, w3)
  else
    qbd2 (fX6_digit w3) fun (r8 : Int32) (w9 : qMem) =>
    some ((10 * r2) + r8, w9)
theorem qhd_X6_number : yX6_number.cls ≠ "java/lang/invoke/MethodHandle" ∧ yX6_number.cls ≠ "java/lang/invoke/VarHandle" ∧ (parseMethodDescriptor yX6_number.desc).map (fun d => d.parameters.length) = some 0 := ⟨by decide +kernel, by decide +kernel, by decide +kernel⟩
set_option maxHeartbeats 4000000 in
set_option maxRecDepth 100000 in
theorem mX6_number {l : Launch} {D : va_G} {G : Nat → ClassId} {ad : Nat → Nat} (hJ : qInj ad) {w : qMem}    {rF : Int32} {wF : qMem} (hf : fX6_number w = some (rF, wF)) : qCMi l D G ad yX6_number cX6_number 2 (some .int) 5 0 0 [.ref (ad 238)] w rF wF := by
  refine q_start RX6 rfl (by decide +kernel) hJ (fun a b h => by simp only [qQI, qQV, qQR, h]) (Nat.le_of_ble_eq_true rfl) ?_
  intro p e s m args below meth c0 ls hC hr hR hl
  have hx := hC.1
  have hb := hC.2.1
  have hl : lv_has ls 2 [(0, .ref (ad 238))] := hl
  unfold fX6_number at hf
  refine lv_aload_n hx hb dX6_number_0 rfl (lv_at hl 0 rfl) ?_
  obtain ⟨r2, w3, hq1, hf⟩ := qbd2_s hf
  refine q_callVi hC hR (mX6_digit (qJ hC) hq1) (by decide) (qsh_238 G ad _) rfl qk_1751 qk_1753 qk_54 qk_64 qk_1754 qhd_X6_digit ⟨Nat.le_of_ble_eq_true rfl, Nat.le_of_ble_eq_true rfl⟩ hl.1 rfl (Nat.le_of_ble_eq_true rfl) dX6_number_1 ⟨Nat.zero_le _, Nat.zero_le _⟩ (fun H locs hR => ?_)
  refine lv_istore_n (lv' := [(1, .int r2), (0, .ref (ad 238))]) hx hb dX6_number_4 rfl hl (by decide) rfl (fun ls hl => ?_)
  refine lv_aload_n hx hb dX6_number_5 rfl (lv_at hl 1 rfl) ?_
  refine lv_bipush (v := 48) hx hb dX6_number_6 (by decide) ?_
  refine lv_bipush (v := 57) hx hb dX6_number_8 (by decide) ?_
  obtain ⟨r5, hq4, hf⟩ := qbd_s hf
  refine q_callVi hC hR (mX6_isHere (qJ hC) hq4) (by decide) (qsh_238 G ad _) rfl qk_1742 qk_1744 qk_52 qk_64 qk_1745 qhd_X6_isHere ⟨Nat.le_of_ble_eq_true rfl, Nat.le_of_ble_eq_true rfl⟩ hl.1 rfl (Nat.le_of_ble_eq_true rfl) dX6_number_10 ⟨Nat.zero_le _, Nat.zero_le _⟩ (fun H locs hR => ?_)
  refine lv_if_eq (tgt := 28) hx hb dX6_number_13 (by decide) (fun c_6 => ?_) (fun c_6 => ?_)
  · have hf := qif_t hf c_6
    refine lv_iload_n hx hb dX6_number_28 rfl (lv_at hl 0 rfl) ?_
    exact q_iret hC hR hr rfl (qso2 hf).1 (qso2 hf).2 dX6_number_29
  · have hf := qif_f hf c_6
    refine lv_bipush (v := 10) hx hb dX6_number_16 (by decide) ?_
    refine lv_iload_n hx hb dX6_number_18 rfl (lv_at hl 0 rfl) ?_
    refine lv_imul hx hb dX6_number_19 ?_
    refine lv_aload_n hx hb dX6_number_20 rfl (lv_at hl 1 rfl) ?_
    obtain ⟨r8, w9, hq7, hf⟩ := qbd2_s hf
    refine q_callVi hC hR (mX6_digit (qJ hC) hq7) (by decide) (qsh_238 G ad _) rfl qk_1751 qk_1753 qk_54 qk_64 qk_1754 qhd_X6_digit ⟨Nat.le_of_ble_eq_true rfl, Nat.le_of_ble_eq_true rfl⟩ hl.1 rfl (Nat.le_of_ble_eq_true rfl) dX6_number_21 ⟨Nat.zero_le _, Nat.zero_le _⟩ (fun H locs hR => ?_)
    refine lv_iadd hx hb dX6_number_24 ?_
    refine lv_goto (tgt := 29) hx hb dX6_number_25 (by decide) ?_
    exact q_iret hC hR hr rfl (qso2 hf).1 (qso2 hf).2 dX6_number_29
-- X6.errorPosition
def fX6_errorPosition (w : qMem)   : Option (Int32 × qMem) :=
  qnm (quw w 238 7 0) fun (w1 : qMem) =>
  some (w1 238 18, w1)
theorem qhd_X6_errorPosition : yX6_errorPosition.cls ≠ "java/lang/invoke/MethodHandle" ∧ yX6_errorPosition.cls ≠ "java/lang/invoke/VarHandle" ∧ (parseMethodDescriptor yX6_errorPosition.desc).map (fun d => d.parameters.length) = some 0 := ⟨by decide +kernel, by decide +kernel, by decide +kernel⟩
set_option maxHeartbeats 4000000 in
set_option maxRecDepth 100000 in
theorem mX6_errorPosition {l : Launch} {D : va_G} {G : Nat → ClassId} {ad : Nat → Nat} (hJ : qInj ad) {w : qMem}    {rF : Int32} {wF : qMem} (hf : fX6_errorPosition w = some (rF, wF)) : qCMi l D G ad yX6_errorPosition cX6_errorPosition 1 (some .int) 1 0 0 [.ref (ad 238)] w rF wF := by
  refine q_start RX6 rfl (by decide +kernel) hJ (fun a b h => by simp only [qQI, qQV, qQR, h]) (Nat.le_of_ble_eq_true rfl) ?_
  intro p e s m args below meth c0 ls hC hr hR hl
  have hx := hC.1
  have hb := hC.2.1
  have hl : lv_has ls 1 [(0, .ref (ad 238))] := hl
  unfold fX6_errorPosition at hf
  refine lv_aload_n hx hb dX6_errorPosition_0 rfl (lv_at hl 0 rfl) ?_
  refine lv_iconst (v := 0) hx hb dX6_errorPosition_1 (by decide) ?_
  refine qput_X6_7 hC hR qk_1132 ⟨rfl, rfl⟩ dX6_errorPosition_2 (fun w1 H locs ew1 hR => ?_)
  have hf := qnm_t hf ew1
  refine lv_aload_n hx hb dX6_errorPosition_5 rfl (lv_at hl 0 rfl) ?_
  refine qget_X6_18 hC hR qk_1143 dX6_errorPosition_6 ?_
  exact q_iret hC hR hr rfl (qso2 hf).1 (qso2 hf).2 dX6_errorPosition_9
-- X6.brokenMany
def fX6_brokenMany_L4 (w : qMem)   : Nat → Int32 → Int32 → Option (Int32)
  | 0, _, _ => none
  | n + 1, x1, x2 =>
    if w 239 0 ≤ x2 then
      some (x1)
    else
      qbd (fX6_of w x2 4) fun (r3 : Int32) =>
      qnm (x1 + r3) fun (x4 : Int32) =>
      qnm (x2 + 1) fun (x5 : Int32) =>
      fX6_brokenMany_L4 w n x4 x5
set_option maxHeartbeats 4000000 in
set_option maxRecDepth 100000 in
theorem mX6_brokenMany_L4 {p : Program} {l : Launch} {e : Env} {s : State} {m : MethodId} {args : Array Value} {below : List Frame} {meth : Method} {c0 : Code} {D : va_G} {G : Nat → ClassId} {ad : Nat → Nat} {w : qMem}   {rF : Int32}  (hC : qCx p c0 cX6_brokenMany 3 s m args meth RX6 D G ad) (hr : meth.sig.returnType = some .int)  : ∀ (n : Nat), ∀ (x1 : Int32) (x2 : Int32) (H : Heap) (locs : List Loc) (ls : Array Slot), fX6_brokenMany_L4 w n x1 x2 = some rF → qRp D G ad s w H locs → lv_has ls 3 [(0, .ref (ad 238)), (1, .int x1), (2, .int x2)] → W p l e (qrm 2 0 0) s m args below meth c0 H locs 0 0 (MQ below (qQI D G ad s w rF) args s 0 0 (qAdr ad s.heap.size)) (F0 m 4 ls []) := by
  have hx := hC.1
  have hb := hC.2.1
  intro n
  induction n with
  | zero => intro x1 x2 H locs ls hf; exact nomatch (show (none : Option (Int32)) = some _ from hf)
  | succ n ih =>
    intro x1 x2 H locs ls hf hR hl
    rw [fX6_brokenMany_L4] at hf
    refine lv_iload_n hx hb dX6_brokenMany_4 rfl (lv_at hl 2 rfl) ?_
    refine lv_aload_n hx hb dX6_brokenMany_5 rfl (lv_at hl 0 rfl) ?_
    refine qget_X6_0 hC hR qk_1125 dX6_brokenMany_6 ?_
    refine lv_iconst (v := 0) hx hb dX6_brokenMany_9 (by decide) ?_
    refine q_ild hC hR (j := 0) (by decide) (qsh_239 G ad _) (by decide) (by decide) dX6_brokenMany_10 ?_
    refine lv_icmp_ge (tgt := 29) hx hb dX6_brokenMany_11 (by decide) (fun c_1 => ?_) (fun c_1 => ?_)
    · have hf := qif_t hf c_1
      refine lv_iload_n hx hb dX6_brokenMany_29 rfl (lv_at hl 1 rfl) ?_
      exact q_iret hC hR hr rfl (qso hf) rfl dX6_brokenMany_30
    · have hf := qif_f hf c_1
      refine lv_iload_n hx hb dX6_brokenMany_14 rfl (lv_at hl 1 rfl) ?_
      refine lv_aload_n hx hb dX6_brokenMany_15 rfl (lv_at hl 0 rfl) ?_
      refine lv_iload_n hx hb dX6_brokenMany_16 rfl (lv_at hl 2 rfl) ?_
      refine lv_iconst (v := 4) hx hb dX6_brokenMany_17 (by decide) ?_
      obtain ⟨r3, hq2, hf⟩ := qbd_s hf
      refine q_callVi hC hR (mX6_of (qJ hC) hq2) (by decide) (qsh_238 G ad _) rfl qk_1230 qk_1232 qk_23 qk_64 qk_1233 qhd_X6_of ⟨Nat.le_of_ble_eq_true rfl, Nat.le_of_ble_eq_true rfl⟩ hl.1 rfl (Nat.le_of_ble_eq_true rfl) dX6_brokenMany_18 ⟨Nat.zero_le _, Nat.zero_le _⟩ (fun H locs hR => ?_)
      refine lv_iadd hx hb dX6_brokenMany_21 ?_
      refine lv_topi (fun x4 ex4 => ?_)
      have hf := qnm_t hf ex4
      refine lv_istore_n (lv' := [(1, .int x4), (0, .ref (ad 238)), (2, .int x2)]) hx hb dX6_brokenMany_22 rfl hl (by decide) rfl (fun ls hl => ?_)
      obtain ⟨x5, ex5⟩ : ∃ y : Int32, y = x2 + 1 := ⟨_, rfl⟩
      have hf := qnm_t hf ex5
      refine lv_iinc (v := x5) (lv' := [(2, .int x5), (1, .int x4), (0, .ref (ad 238))]) hx hb dX6_brokenMany_23 hl (k := 2) rfl (by rw [ex5]; rfl) (by decide) rfl (fun ls hl => ?_)
      refine lv_goto (tgt := 4) hx hb dX6_brokenMany_26 (by decide) ?_
      exact ih _ _ _ _ _ hf hR (lv_sub hl [2, 1, 0] rfl)
def fX6_brokenMany (w : qMem)   : Option (Int32) :=
  fX6_brokenMany_L4 w 100 0 0
theorem qhd_X6_brokenMany : yX6_brokenMany.cls ≠ "java/lang/invoke/MethodHandle" ∧ yX6_brokenMany.cls ≠ "java/lang/invoke/VarHandle" ∧ (parseMethodDescriptor yX6_brokenMany.desc).map (fun d => d.parameters.length) = some 0 := ⟨by decide +kernel, by decide +kernel, by decide +kernel⟩
set_option maxHeartbeats 4000000 in
set_option maxRecDepth 100000 in
theorem mX6_brokenMany {l : Launch} {D : va_G} {G : Nat → ClassId} {ad : Nat → Nat} (hJ : qInj ad) {w : qMem}    {rF : Int32} (hf : fX6_brokenMany w = some rF) : qCMi l D G ad yX6_brokenMany cX6_brokenMany 3 (some .int) 2 0 0 [.ref (ad 238)] w rF w := by
  refine q_start RX6 rfl (by decide +kernel) hJ (fun a b h => by simp only [qQI, qQV, qQR, h]) (Nat.le_of_ble_eq_true rfl) ?_
  intro p e s m args below meth c0 ls hC hr hR hl
  have hx := hC.1
  have hb := hC.2.1
  have hl : lv_has ls 3 [(0, .ref (ad 238))] := hl
  unfold fX6_brokenMany at hf
  refine lv_iconst (v := 0) hx hb dX6_brokenMany_0 (by decide) ?_
  refine lv_istore_n (lv' := [(1, .int 0), (0, .ref (ad 238))]) hx hb dX6_brokenMany_1 rfl hl (by decide) rfl (fun ls hl => ?_)
  refine lv_iconst (v := 0) hx hb dX6_brokenMany_2 (by decide) ?_
  refine lv_istore_n (lv' := [(2, .int 0), (1, .int 0), (0, .ref (ad 238))]) hx hb dX6_brokenMany_3 rfl hl (by decide) rfl (fun ls hl => ?_)
  exact mX6_brokenMany_L4 hC hr 100 _ _ _ _ _ hf hR (lv_sub hl [2, 1, 0] rfl)
-- X6.account
def fX6_account_L16   (w : qMem) (x1 : Int32) (s0 : Int32) : Option (Int32 × qMem) :=
  qnm (quw w 238 7 s0) fun (w4 : qMem) =>
  if w4 238 7 ≤ 0 then
    if x1 = 0 then
      some (w4 239 0, w4)
    else
    if x1 = 1 then
      if (4 : Int32) ≤ x1 then
        if qin ((2 + x1) - 6) 99 = true then
        some (w4 239 ((2 + x1) - 6).toNatClampNeg, w4)
        else none
      else
        qbd (fX6_kindMany w4 x1) fun (r11 : Int32) =>
        some (r11, w4)
    else
    if x1 = 2 then
      if (4 : Int32) ≤ x1 then
        if qin ((2 + x1) - 6) 99 = true then
        some (w4 239 ((2 + x1) - 6).toNatClampNeg, w4)
        else none
      else
        qbd (fX6_kindMany w4 x1) fun (r16 : Int32) =>
        some (r16, w4)
    else
    if x1 = 3 then
      if (4 : Int32) ≤ x1 then
        if qin ((2 + x1) - 6) 99 = true then
        some (w4 239 ((2 + x1) - 6).toNatClampNeg, w4)
        else none
      else
        qbd (fX6_kindMany w4 x1) fun (r21 : Int32) =>
        some (r21, w4)
    else
    if x1 = 4 then
      qbd (fX6_brokenMany w4) fun (r24 : Int32) =>
      some (r24, w4)
    else
    if x1 = 5 then
      some (w4 239 1, w4)
    else
    if x1 = 6 then
      if (4 : Int32) ≤ x1 then
        if qin ((2 + x1) - 6) 99 = true then
        some (w4 239 ((2 + x1) - 6).toNatClampNeg, w4)
        else none
      else
        qbd (fX6_kindMany w4 x1) fun (r30 : Int32) =>
        some (r30, w4)
    else
    if x1 = 7 then
      if (4 : Int32) ≤ x1 then
        if qin ((2 + x1) - 6) 99 = true then
        some (w4 239 ((2 + x1) - 6).toNatClampNeg, w4)
        else none
      else
        qbd (fX6_kindMany w4 x1) fun (r35 : Int32) =>
        some (r35, w4)
    else
    if x1 = 8 then
      if (4 : Int32) ≤ x1 then
        if qin ((2 + x1) - 6) 99 = true then
        some (w4 239 ((2 + x1) - 6).toNatClampNeg, w4)
        else none
      else
        qbd (fX6_kindMany w4 x1) fun (r40 : Int32) =>
        some (r40, w4)
    else
    if x1 = 9 then
      if (4 : Int32) ≤ x1 then
        if qin ((2 + x1) - 6) 99 = true then
        some (w4 239 ((2 + x1) - 6).toNatClampNeg, w4)
        else none
      else
        qbd (fX6_kindMany w4 x1) fun (r45 : Int32) =>
        some (r45, w4)
    else
    if x1 = 10 then
      if (4 : Int32) ≤ x1 then
        if qin ((2 + x1) - 6) 99 = true then
        some (w4 239 ((2 + x1) - 6).toNatClampNeg, w4)
        else none
      else
        qbd (fX6_kindMany w4 x1) fun (r50 : Int32) =>
        some (r50, w4)
    else
    if x1 = 11 then
      some (w4 238 15, w4)
    else
    if x1 = 12 then
      some (w4 238 6, w4)
    else
    if (4 : Int32) ≤ x1 then
      if qin ((2 + x1) - 6) 99 = true then
      some (w4 239 ((2 + x1) - 6).toNatClampNeg, w4)
      else none
    else
      qbd (fX6_kindMany w4 x1) fun (r56 : Int32) =>
      some (r56, w4)
  else
    some (0, w4)
set_option maxHeartbeats 4000000 in
set_option maxRecDepth 100000 in
theorem mX6_account_L16 {p : Program} {l : Launch} {e : Env} {s : State} {m : MethodId} {args : Array Value} {below : List Frame} {meth : Method} {c0 : Code} {D : va_G} {G : Nat → ClassId} {ad : Nat → Nat}   {rF : Int32} {wF : qMem}  (hC : qCx p c0 cX6_account 2 s m args meth RX6 D G ad) (hr : meth.sig.returnType = some .int)  : ∀ (w : qMem) (x1 : Int32) (s0 : Int32) (H : Heap) (locs : List Loc) (ls : Array Slot), fX6_account_L16 w x1 s0 = some (rF, wF) → qRp D G ad s w H locs → lv_has ls 2 [(0, .ref (ad 238)), (1, .int x1)] → W p l e (qrm 3 0 0) s m args below meth c0 H locs 0 0 (MQ below (qQI D G ad s wF rF) args s 0 0 (qAdr ad s.heap.size)) (F0 m 16 ls [.int s0, .ref (ad 238)]) := by
  have hx := hC.1
  have hb := hC.2.1
  intro w x1 s0 H locs ls hf hR hl
  unfold fX6_account_L16 at hf
  refine qput_X6_7 hC hR qk_1132 ⟨rfl, rfl⟩ dX6_account_16 (fun w4 H locs ew4 hR => ?_)
  have hf := qnm_t hf ew4
  refine lv_aload_n hx hb dX6_account_19 rfl (lv_at hl 0 rfl) ?_
  refine qget_X6_7 hC hR qk_1132 dX6_account_20 ?_
  refine lv_if_le (tgt := 28) hx hb dX6_account_23 (by decide) (fun c_5 => ?_) (fun c_5 => ?_)
  · have hf := qif_t hf c_5
    refine lv_iload_n hx hb dX6_account_28 rfl (lv_at hl 1 rfl) ?_
    by_cases c_6 : x1 = 0
    · have hf := qif_t hf c_6
      refine lv_tableIn (off := 67) (tgt := 96) hx hb dX6_account_29 (by rw [c_6]; decide) (by rw [c_6]; decide) (by rw [c_6]; decide) (by decide) ?_
      refine lv_aload_n hx hb dX6_account_96 rfl (lv_at hl 0 rfl) ?_
      refine qget_X6_0 hC hR qk_1125 dX6_account_97 ?_
      refine lv_iconst (v := 0) hx hb dX6_account_100 (by decide) ?_
      refine q_ild hC hR (j := 0) (by decide) (qsh_239 G ad _) (by decide) (by decide) dX6_account_101 ?_
      exact q_iret hC hR hr rfl (qso2 hf).1 (qso2 hf).2 dX6_account_102
    have hf := qif_f hf c_6
    by_cases c_7 : x1 = 1
    · have hf := qif_t hf c_7
      refine lv_tableIn (off := 96) (tgt := 125) hx hb dX6_account_29 (by rw [c_7]; decide) (by rw [c_7]; decide) (by rw [c_7]; decide) (by decide) ?_
      refine lv_iload_n hx hb dX6_account_125 rfl (lv_at hl 1 rfl) ?_
      refine lv_iconst (v := 4) hx hb dX6_account_126 (by decide) ?_
      refine lv_icmp_ge (tgt := 138) hx hb dX6_account_127 (by decide) (fun c_8 => ?_) (fun c_8 => ?_)
      · have hf := qif_t hf c_8
        refine lv_aload_n hx hb dX6_account_138 rfl (lv_at hl 0 rfl) ?_
        refine qget_X6_0 hC hR qk_1125 dX6_account_139 ?_
        refine lv_iconst (v := 2) hx hb dX6_account_142 (by decide) ?_
        refine lv_iload_n hx hb dX6_account_143 rfl (lv_at hl 1 rfl) ?_
        refine lv_iadd hx hb dX6_account_144 ?_
        refine lv_bipush (v := 6) hx hb dX6_account_145 (by decide) ?_
        refine lv_isub hx hb dX6_account_147 ?_
        obtain ⟨g9, hf⟩ := qgd hf
        refine q_ild hC hR (j := ((2 + x1) - 6).toNatClampNeg) (by decide) (qsh_239 G ad _) g9 rfl dX6_account_148 ?_
        exact q_iret hC hR hr rfl (qso2 hf).1 (qso2 hf).2 dX6_account_149
      · have hf := qif_f hf c_8
        refine lv_aload_n hx hb dX6_account_130 rfl (lv_at hl 0 rfl) ?_
        refine lv_iload_n hx hb dX6_account_131 rfl (lv_at hl 1 rfl) ?_
        obtain ⟨r11, hq10, hf⟩ := qbd_s hf
        refine q_callVi hC hR (mX6_kindMany (qJ hC) hq10) (by decide) (qsh_238 G ad _) rfl qk_1325 qk_1327 qk_37 qk_64 qk_1328 qhd_X6_kindMany ⟨Nat.le_of_ble_eq_true rfl, Nat.le_of_ble_eq_true rfl⟩ hl.1 rfl (Nat.le_of_ble_eq_true rfl) dX6_account_132 ⟨Nat.zero_le _, Nat.zero_le _⟩ (fun H locs hR => ?_)
        refine lv_goto (tgt := 149) hx hb dX6_account_135 (by decide) ?_
        exact q_iret hC hR hr rfl (qso2 hf).1 (qso2 hf).2 dX6_account_149
    have hf := qif_f hf c_7
    by_cases c_12 : x1 = 2
    · have hf := qif_t hf c_12
      refine lv_tableIn (off := 96) (tgt := 125) hx hb dX6_account_29 (by rw [c_12]; decide) (by rw [c_12]; decide) (by rw [c_12]; decide) (by decide) ?_
      refine lv_iload_n hx hb dX6_account_125 rfl (lv_at hl 1 rfl) ?_
      refine lv_iconst (v := 4) hx hb dX6_account_126 (by decide) ?_
      refine lv_icmp_ge (tgt := 138) hx hb dX6_account_127 (by decide) (fun c_13 => ?_) (fun c_13 => ?_)
      · have hf := qif_t hf c_13
        refine lv_aload_n hx hb dX6_account_138 rfl (lv_at hl 0 rfl) ?_
        refine qget_X6_0 hC hR qk_1125 dX6_account_139 ?_
        refine lv_iconst (v := 2) hx hb dX6_account_142 (by decide) ?_
        refine lv_iload_n hx hb dX6_account_143 rfl (lv_at hl 1 rfl) ?_
        refine lv_iadd hx hb dX6_account_144 ?_
        refine lv_bipush (v := 6) hx hb dX6_account_145 (by decide) ?_
        refine lv_isub hx hb dX6_account_147 ?_
        obtain ⟨g14, hf⟩ := qgd hf
        refine q_ild hC hR (j := ((2 + x1) - 6).toNatClampNeg) (by decide) (qsh_239 G ad _) g14 rfl dX6_account_148 ?_
        exact q_iret hC hR hr rfl (qso2 hf).1 (qso2 hf).2 dX6_account_149
      · have hf := qif_f hf c_13
        refine lv_aload_n hx hb dX6_account_130 rfl (lv_at hl 0 rfl) ?_
        refine lv_iload_n hx hb dX6_account_131 rfl (lv_at hl 1 rfl) ?_
        obtain ⟨r16, hq15, hf⟩ := qbd_s hf
        refine q_callVi hC hR (mX6_kindMany (qJ hC) hq15) (by decide) (qsh_238 G ad _) rfl qk_1325 qk_1327 qk_37 qk_64 qk_1328 qhd_X6_kindMany ⟨Nat.le_of_ble_eq_true rfl, Nat.le_of_ble_eq_true rfl⟩ hl.1 rfl (Nat.le_of_ble_eq_true rfl) dX6_account_132 ⟨Nat.zero_le _, Nat.zero_le _⟩ (fun H locs hR => ?_)
        refine lv_goto (tgt := 149) hx hb dX6_account_135 (by decide) ?_
        exact q_iret hC hR hr rfl (qso2 hf).1 (qso2 hf).2 dX6_account_149
    have hf := qif_f hf c_12
    by_cases c_17 : x1 = 3
    · have hf := qif_t hf c_17
      refine lv_tableIn (off := 96) (tgt := 125) hx hb dX6_account_29 (by rw [c_17]; decide) (by rw [c_17]; decide) (by rw [c_17]; decide) (by decide) ?_
      refine lv_iload_n hx hb dX6_account_125 rfl (lv_at hl 1 rfl) ?_
      refine lv_iconst (v := 4) hx hb dX6_account_126 (by decide) ?_
      refine lv_icmp_ge (tgt := 138) hx hb dX6_account_127 (by decide) (fun c_18 => ?_) (fun c_18 => ?_)
      · have hf := qif_t hf c_18
        refine lv_aload_n hx hb dX6_account_138 rfl (lv_at hl 0 rfl) ?_
        refine qget_X6_0 hC hR qk_1125 dX6_account_139 ?_
        refine lv_iconst (v := 2) hx hb dX6_account_142 (by decide) ?_
        refine lv_iload_n hx hb dX6_account_143 rfl (lv_at hl 1 rfl) ?_
        refine lv_iadd hx hb dX6_account_144 ?_
        refine lv_bipush (v := 6) hx hb dX6_account_145 (by decide) ?_
        refine lv_isub hx hb dX6_account_147 ?_
        obtain ⟨g19, hf⟩ := qgd hf
        refine q_ild hC hR (j := ((2 + x1) - 6).toNatClampNeg) (by decide) (qsh_239 G ad _) g19 rfl dX6_account_148 ?_
        exact q_iret hC hR hr rfl (qso2 hf).1 (qso2 hf).2 dX6_account_149
      · have hf := qif_f hf c_18
        refine lv_aload_n hx hb dX6_account_130 rfl (lv_at hl 0 rfl) ?_
        refine lv_iload_n hx hb dX6_account_131 rfl (lv_at hl 1 rfl) ?_
        obtain ⟨r21, hq20, hf⟩ := qbd_s hf
        refine q_callVi hC hR (mX6_kindMany (qJ hC) hq20) (by decide) (qsh_238 G ad _) rfl qk_1325 qk_1327 qk_37 qk_64 qk_1328 qhd_X6_kindMany ⟨Nat.le_of_ble_eq_true rfl, Nat.le_of_ble_eq_true rfl⟩ hl.1 rfl (Nat.le_of_ble_eq_true rfl) dX6_account_132 ⟨Nat.zero_le _, Nat.zero_le _⟩ (fun H locs hR => ?_)
        refine lv_goto (tgt := 149) hx hb dX6_account_135 (by decide) ?_
        exact q_iret hC hR hr rfl (qso2 hf).1 (qso2 hf).2 dX6_account_149
    have hf := qif_f hf c_17
    by_cases c_22 : x1 = 4
    · have hf := qif_t hf c_22
      refine lv_tableIn (off := 74) (tgt := 103) hx hb dX6_account_29 (by rw [c_22]; decide) (by rw [c_22]; decide) (by rw [c_22]; decide) (by decide) ?_
      refine lv_aload_n hx hb dX6_account_103 rfl (lv_at hl 0 rfl) ?_
      obtain ⟨r24, hq23, hf⟩ := qbd_s hf
      refine q_callVi hC hR (mX6_brokenMany (qJ hC) hq23) (by decide) (qsh_238 G ad _) rfl qk_1767 qk_1769 qk_56 qk_64 qk_1770 qhd_X6_brokenMany ⟨Nat.le_of_ble_eq_true rfl, Nat.le_of_ble_eq_true rfl⟩ hl.1 rfl (Nat.le_of_ble_eq_true rfl) dX6_account_104 ⟨Nat.zero_le _, Nat.zero_le _⟩ (fun H locs hR => ?_)
      exact q_iret hC hR hr rfl (qso2 hf).1 (qso2 hf).2 dX6_account_107
    have hf := qif_f hf c_22
    by_cases c_25 : x1 = 5
    · have hf := qif_t hf c_25
      refine lv_tableIn (off := 79) (tgt := 108) hx hb dX6_account_29 (by rw [c_25]; decide) (by rw [c_25]; decide) (by rw [c_25]; decide) (by decide) ?_
      refine lv_aload_n hx hb dX6_account_108 rfl (lv_at hl 0 rfl) ?_
      refine qget_X6_0 hC hR qk_1125 dX6_account_109 ?_
      refine lv_iconst (v := 1) hx hb dX6_account_112 (by decide) ?_
      refine q_ild hC hR (j := 1) (by decide) (qsh_239 G ad _) (by decide) (by decide) dX6_account_113 ?_
      exact q_iret hC hR hr rfl (qso2 hf).1 (qso2 hf).2 dX6_account_114
    have hf := qif_f hf c_25
    by_cases c_26 : x1 = 6
    · have hf := qif_t hf c_26
      refine lv_tableIn (off := 96) (tgt := 125) hx hb dX6_account_29 (by rw [c_26]; decide) (by rw [c_26]; decide) (by rw [c_26]; decide) (by decide) ?_
      refine lv_iload_n hx hb dX6_account_125 rfl (lv_at hl 1 rfl) ?_
      refine lv_iconst (v := 4) hx hb dX6_account_126 (by decide) ?_
      refine lv_icmp_ge (tgt := 138) hx hb dX6_account_127 (by decide) (fun c_27 => ?_) (fun c_27 => ?_)
      · have hf := qif_t hf c_27
        refine lv_aload_n hx hb dX6_account_138 rfl (lv_at hl 0 rfl) ?_
        refine qget_X6_0 hC hR qk_1125 dX6_account_139 ?_
        refine lv_iconst (v := 2) hx hb dX6_account_142 (by decide) ?_
        refine lv_iload_n hx hb dX6_account_143 rfl (lv_at hl 1 rfl) ?_
        refine lv_iadd hx hb dX6_account_144 ?_
        refine lv_bipush (v := 6) hx hb dX6_account_145 (by decide) ?_
        refine lv_isub hx hb dX6_account_147 ?_
        obtain ⟨g28, hf⟩ := qgd hf
        refine q_ild hC hR (j := ((2 + x1) - 6).toNatClampNeg) (by decide) (qsh_239 G ad _) g28 rfl dX6_account_148 ?_
        exact q_iret hC hR hr rfl (qso2 hf).1 (qso2 hf).2 dX6_account_149
      · have hf := qif_f hf c_27
        refine lv_aload_n hx hb dX6_account_130 rfl (lv_at hl 0 rfl) ?_
        refine lv_iload_n hx hb dX6_account_131 rfl (lv_at hl 1 rfl) ?_
        obtain ⟨r30, hq29, hf⟩ := qbd_s hf
        refine q_callVi hC hR (mX6_kindMany (qJ hC) hq29) (by decide) (qsh_238 G ad _) rfl qk_1325 qk_1327 qk_37 qk_64 qk_1328 qhd_X6_kindMany ⟨Nat.le_of_ble_eq_true rfl, Nat.le_of_ble_eq_true rfl⟩ hl.1 rfl (Nat.le_of_ble_eq_true rfl) dX6_account_132 ⟨Nat.zero_le _, Nat.zero_le _⟩ (fun H locs hR => ?_)
        refine lv_goto (tgt := 149) hx hb dX6_account_135 (by decide) ?_
        exact q_iret hC hR hr rfl (qso2 hf).1 (qso2 hf).2 dX6_account_149
    have hf := qif_f hf c_26
    by_cases c_31 : x1 = 7
    · have hf := qif_t hf c_31
      refine lv_tableIn (off := 96) (tgt := 125) hx hb dX6_account_29 (by rw [c_31]; decide) (by rw [c_31]; decide) (by rw [c_31]; decide) (by decide) ?_
      refine lv_iload_n hx hb dX6_account_125 rfl (lv_at hl 1 rfl) ?_
      refine lv_iconst (v := 4) hx hb dX6_account_126 (by decide) ?_
      refine lv_icmp_ge (tgt := 138) hx hb dX6_account_127 (by decide) (fun c_32 => ?_) (fun c_32 => ?_)
      · have hf := qif_t hf c_32
        refine lv_aload_n hx hb dX6_account_138 rfl (lv_at hl 0 rfl) ?_
        refine qget_X6_0 hC hR qk_1125 dX6_account_139 ?_
        refine lv_iconst (v := 2) hx hb dX6_account_142 (by decide) ?_
        refine lv_iload_n hx hb dX6_account_143 rfl (lv_at hl 1 rfl) ?_
        refine lv_iadd hx hb dX6_account_144 ?_
        refine lv_bipush (v := 6) hx hb dX6_account_145 (by decide) ?_
        refine lv_isub hx hb dX6_account_147 ?_
        obtain ⟨g33, hf⟩ := qgd hf
        refine q_ild hC hR (j := ((2 + x1) - 6).toNatClampNeg) (by decide) (qsh_239 G ad _) g33 rfl dX6_account_148 ?_
        exact q_iret hC hR hr rfl (qso2 hf).1 (qso2 hf).2 dX6_account_149
      · have hf := qif_f hf c_32
        refine lv_aload_n hx hb dX6_account_130 rfl (lv_at hl 0 rfl) ?_
        refine lv_iload_n hx hb dX6_account_131 rfl (lv_at hl 1 rfl) ?_
        obtain ⟨r35, hq34, hf⟩ := qbd_s hf
        refine q_callVi hC hR (mX6_kindMany (qJ hC) hq34) (by decide) (qsh_238 G ad _) rfl qk_1325 qk_1327 qk_37 qk_64 qk_1328 qhd_X6_kindMany ⟨Nat.le_of_ble_eq_true rfl, Nat.le_of_ble_eq_true rfl⟩ hl.1 rfl (Nat.le_of_ble_eq_true rfl) dX6_account_132 ⟨Nat.zero_le _, Nat.zero_le _⟩ (fun H locs hR => ?_)
        refine lv_goto (tgt := 149) hx hb dX6_account_135 (by decide) ?_
        exact q_iret hC hR hr rfl (qso2 hf).1 (qso2 hf).2 dX6_account_149
    have hf := qif_f hf c_31
    by_cases c_36 : x1 = 8
    · have hf := qif_t hf c_36
      refine lv_tableIn (off := 96) (tgt := 125) hx hb dX6_account_29 (by rw [c_36]; decide) (by rw [c_36]; decide) (by rw [c_36]; decide) (by decide) ?_
      refine lv_iload_n hx hb dX6_account_125 rfl (lv_at hl 1 rfl) ?_
      refine lv_iconst (v := 4) hx hb dX6_account_126 (by decide) ?_
      refine lv_icmp_ge (tgt := 138) hx hb dX6_account_127 (by decide) (fun c_37 => ?_) (fun c_37 => ?_)
      · have hf := qif_t hf c_37
        refine lv_aload_n hx hb dX6_account_138 rfl (lv_at hl 0 rfl) ?_
        refine qget_X6_0 hC hR qk_1125 dX6_account_139 ?_
        refine lv_iconst (v := 2) hx hb dX6_account_142 (by decide) ?_
        refine lv_iload_n hx hb dX6_account_143 rfl (lv_at hl 1 rfl) ?_
        refine lv_iadd hx hb dX6_account_144 ?_
        refine lv_bipush (v := 6) hx hb dX6_account_145 (by decide) ?_
        refine lv_isub hx hb dX6_account_147 ?_
        obtain ⟨g38, hf⟩ := qgd hf
        refine q_ild hC hR (j := ((2 + x1) - 6).toNatClampNeg) (by decide) (qsh_239 G ad _) g38 rfl dX6_account_148 ?_
        exact q_iret hC hR hr rfl (qso2 hf).1 (qso2 hf).2 dX6_account_149
      · have hf := qif_f hf c_37
        refine lv_aload_n hx hb dX6_account_130 rfl (lv_at hl 0 rfl) ?_
        refine lv_iload_n hx hb dX6_account_131 rfl (lv_at hl 1 rfl) ?_
        obtain ⟨r40, hq39, hf⟩ := qbd_s hf
        refine q_callVi hC hR (mX6_kindMany (qJ hC) hq39) (by decide) (qsh_238 G ad _) rfl qk_1325 qk_1327 qk_37 qk_64 qk_1328 qhd_X6_kindMany ⟨Nat.le_of_ble_eq_true rfl, Nat.le_of_ble_eq_true rfl⟩ hl.1 rfl (Nat.le_of_ble_eq_true rfl) dX6_account_132 ⟨Nat.zero_le _, Nat.zero_le _⟩ (fun H locs hR => ?_)
        refine lv_goto (tgt := 149) hx hb dX6_account_135 (by decide) ?_
        exact q_iret hC hR hr rfl (qso2 hf).1 (qso2 hf).2 dX6_account_149
    have hf := qif_f hf c_36
    by_cases c_41 : x1 = 9
    · have hf := qif_t hf c_41
      refine lv_tableIn (off := 96) (tgt := 125) hx hb dX6_account_29 (by rw [c_41]; decide) (by rw [c_41]; decide) (by rw [c_41]; decide) (by decide) ?_
      refine lv_iload_n hx hb dX6_account_125 rfl (lv_at hl 1 rfl) ?_
      refine lv_iconst (v := 4) hx hb dX6_account_126 (by decide) ?_
      refine lv_icmp_ge (tgt := 138) hx hb dX6_account_127 (by decide) (fun c_42 => ?_) (fun c_42 => ?_)
      · have hf := qif_t hf c_42
        refine lv_aload_n hx hb dX6_account_138 rfl (lv_at hl 0 rfl) ?_
        refine qget_X6_0 hC hR qk_1125 dX6_account_139 ?_
        refine lv_iconst (v := 2) hx hb dX6_account_142 (by decide) ?_
        refine lv_iload_n hx hb dX6_account_143 rfl (lv_at hl 1 rfl) ?_
        refine lv_iadd hx hb dX6_account_144 ?_
        refine lv_bipush (v := 6) hx hb dX6_account_145 (by decide) ?_
        refine lv_isub hx hb dX6_account_147 ?_
        obtain ⟨g43, hf⟩ := qgd hf
        refine q_ild hC hR (j := ((2 + x1) - 6).toNatClampNeg) (by decide) (qsh_239 G ad _) g43 rfl dX6_account_148 ?_
        exact q_iret hC hR hr rfl (qso2 hf).1 (qso2 hf).2 dX6_account_149
      · have hf := qif_f hf c_42
        refine lv_aload_n hx hb dX6_account_130 rfl (lv_at hl 0 rfl) ?_
        refine lv_iload_n hx hb dX6_account_131 rfl (lv_at hl 1 rfl) ?_
        obtain ⟨r45, hq44, hf⟩ := qbd_s hf
        refine q_callVi hC hR (mX6_kindMany (qJ hC) hq44) (by decide) (qsh_238 G ad _) rfl qk_1325 qk_1327 qk_37 qk_64 qk_1328 qhd_X6_kindMany ⟨Nat.le_of_ble_eq_true rfl, Nat.le_of_ble_eq_true rfl⟩ hl.1 rfl (Nat.le_of_ble_eq_true rfl) dX6_account_132 ⟨Nat.zero_le _, Nat.zero_le _⟩ (fun H locs hR => ?_)
        refine lv_goto (tgt := 149) hx hb dX6_account_135 (by decide) ?_
        exact q_iret hC hR hr rfl (qso2 hf).1 (qso2 hf).2 dX6_account_149
    have hf := qif_f hf c_41
    by_cases c_46 : x1 = 10
    · have hf := qif_t hf c_46
      refine lv_tableIn (off := 96) (tgt := 125) hx hb dX6_account_29 (by rw [c_46]; decide) (by rw [c_46]; decide) (by rw [c_46]; decide) (by decide) ?_
      refine lv_iload_n hx hb dX6_account_125 rfl (lv_at hl 1 rfl) ?_
      refine lv_iconst (v := 4) hx hb dX6_account_126 (by decide) ?_
      refine lv_icmp_ge (tgt := 138) hx hb dX6_account_127 (by decide) (fun c_47 => ?_) (fun c_47 => ?_)
      · have hf := qif_t hf c_47
        refine lv_aload_n hx hb dX6_account_138 rfl (lv_at hl 0 rfl) ?_
        refine qget_X6_0 hC hR qk_1125 dX6_account_139 ?_
        refine lv_iconst (v := 2) hx hb dX6_account_142 (by decide) ?_
        refine lv_iload_n hx hb dX6_account_143 rfl (lv_at hl 1 rfl) ?_
        refine lv_iadd hx hb dX6_account_144 ?_
        refine lv_bipush (v := 6) hx hb dX6_account_145 (by decide) ?_
        refine lv_isub hx hb dX6_account_147 ?_
        obtain ⟨g48, hf⟩ := qgd hf
        refine q_ild hC hR (j := ((2 + x1) - 6).toNatClampNeg) (by decide) (qsh_239 G ad _) g48 rfl dX6_account_148 ?_
        exact q_iret hC hR hr rfl (qso2 hf).1 (qso2 hf).2 dX6_account_149
      · have hf := qif_f hf c_47
        refine lv_aload_n hx hb dX6_account_130 rfl (lv_at hl 0 rfl) ?_
        refine lv_iload_n hx hb dX6_account_131 rfl (lv_at hl 1 rfl) ?_
        obtain ⟨r50, hq49, hf⟩ := qbd_s hf
        refine q_callVi hC hR (mX6_kindMany (qJ hC) hq49) (by decide) (qsh_238 G ad _) rfl qk_1325 qk_1327 qk_37 qk_64 qk_1328 qhd_X6_kindMany ⟨Nat.le_of_ble_eq_true rfl, Nat.le_of_ble_eq_true rfl⟩ hl.1 rfl (Nat.le_of_ble_eq_true rfl) dX6_account_132 ⟨Nat.zero_le _, Nat.zero_le _⟩ (fun H locs hR => ?_)
        refine lv_goto (tgt := 149) hx hb dX6_account_135 (by decide) ?_
        exact q_iret hC hR hr rfl (qso2 hf).1 (qso2 hf).2 dX6_account_149
    have hf := qif_f hf c_46
    by_cases c_51 : x1 = 11
    · have hf := qif_t hf c_51
      refine lv_tableIn (off := 86) (tgt := 115) hx hb dX6_account_29 (by rw [c_51]; decide) (by rw [c_51]; decide) (by rw [c_51]; decide) (by decide) ?_
      refine lv_aload_n hx hb dX6_account_115 rfl (lv_at hl 0 rfl) ?_
      refine qget_X6_15 hC hR qk_1140 dX6_account_116 ?_
      exact q_iret hC hR hr rfl (qso2 hf).1 (qso2 hf).2 dX6_account_119
    have hf := qif_f hf c_51
    by_cases c_52 : x1 = 12
    · have hf := qif_t hf c_52
      refine lv_tableIn (off := 91) (tgt := 120) hx hb dX6_account_29 (by rw [c_52]; decide) (by rw [c_52]; decide) (by rw [c_52]; decide) (by decide) ?_
      refine lv_aload_n hx hb dX6_account_120 rfl (lv_at hl 0 rfl) ?_
      refine qget_X6_6 hC hR qk_1131 dX6_account_121 ?_
      exact q_iret hC hR hr rfl (qso2 hf).1 (qso2 hf).2 dX6_account_124
    have hf := qif_f hf c_52
    refine lv_tableOut (tgt := 125) hx hb dX6_account_29 (by have hc_6 := qne (z := 0) c_6 rfl; have hc_7 := qne (z := 1) c_7 rfl; have hc_12 := qne (z := 2) c_12 rfl; have hc_17 := qne (z := 3) c_17 rfl; have hc_22 := qne (z := 4) c_22 rfl; have hc_25 := qne (z := 5) c_25 rfl; have hc_26 := qne (z := 6) c_26 rfl; have hc_31 := qne (z := 7) c_31 rfl; have hc_36 := qne (z := 8) c_36 rfl; have hc_41 := qne (z := 9) c_41 rfl; have hc_46 := qne (z := 10) c_46 rfl; have hc_51 := qne (z := 11) c_51 rfl; have hc_52 := qne (z := 12) c_52 rfl; omega) (by decide) ?_
    refine lv_iload_n hx hb dX6_account_125 rfl (lv_at hl 1 rfl) ?_
    refine lv_iconst (v := 4) hx hb dX6_account_126 (by decide) ?_
    refine lv_icmp_ge (tgt := 138) hx hb dX6_account_127 (by decide) (fun c_53 => ?_) (fun c_53 => ?_)
    · have hf := qif_t hf c_53
      refine lv_aload_n hx hb dX6_account_138 rfl (lv_at hl 0 rfl) ?_
      refine qget_X6_0 hC hR qk_1125 dX6_account_139 ?_
      refine lv_iconst (v := 2) hx hb dX6_account_142 (by decide) ?_
      refine lv_iload_n hx hb dX6_account_143 rfl (lv_at hl 1 rfl) ?_
      refine lv_iadd hx hb dX6_account_144 ?_
      refine lv_bipush (v := 6) hx hb dX6_account_145 (by decide) ?_
      refine lv_isub hx hb dX6_account_147 ?_
      obtain ⟨g54, hf⟩ := qgd hf
      refine q_ild hC hR (j := ((2 + x1) - 6).toNatClampNeg) (by decide) (qsh_239 G ad _) g54 rfl dX6_account_148 ?_
      exact q_iret hC hR hr rfl (qso2 hf).1 (qso2 hf).2 dX6_account_149
    · have hf := qif_f hf c_53
      refine lv_aload_n hx hb dX6_account_130 rfl (lv_at hl 0 rfl) ?_
      refine lv_iload_n hx hb dX6_account_131 rfl (lv_at hl 1 rfl) ?_
      obtain ⟨r56, hq55, hf⟩ := qbd_s hf
      refine q_callVi hC hR (mX6_kindMany (qJ hC) hq55) (by decide) (qsh_238 G ad _) rfl qk_1325 qk_1327 qk_37 qk_64 qk_1328 qhd_X6_kindMany ⟨Nat.le_of_ble_eq_true rfl, Nat.le_of_ble_eq_true rfl⟩ hl.1 rfl (Nat.le_of_ble_eq_true rfl) dX6_account_132 ⟨Nat.zero_le _, Nat.zero_le _⟩ (fun H locs hR => ?_)
      refine lv_goto (tgt := 149) hx hb dX6_account_135 (by decide) ?_
      exact q_iret hC hR hr rfl (qso2 hf).1 (qso2 hf).2 dX6_account_149
  · have hf := qif_f hf c_5
    refine lv_iconst (v := 0) hx hb dX6_account_26 (by decide) ?_
    exact q_iret hC hR hr rfl (qso2 hf).1 (qso2 hf).2 dX6_account_27
def fX6_account (w : qMem)  (a1 : Int32) : Option (Int32 × qMem) :=
  qbd (fX6_in w a1 0 12) fun (r2 : Int32) =>
  if r2 = 0 then
    fX6_account_L16 w a1 1
  else
    fX6_account_L16 w a1 0
theorem qhd_X6_account : yX6_account.cls ≠ "java/lang/invoke/MethodHandle" ∧ yX6_account.cls ≠ "java/lang/invoke/VarHandle" ∧ (parseMethodDescriptor yX6_account.desc).map (fun d => d.parameters.length) = some 1 := ⟨by decide +kernel, by decide +kernel, by decide +kernel⟩
set_option maxHeartbeats 4000000 in
set_option maxRecDepth 100000 in
theorem mX6_account {l : Launch} {D : va_G} {G : Nat → ClassId} {ad : Nat → Nat} (hJ : qInj ad) {w : qMem}   {a1 : Int32} {rF : Int32} {wF : qMem} (hf : fX6_account w a1 = some (rF, wF)) : qCMi l D G ad yX6_account cX6_account 2 (some .int) 3 0 0 [.ref (ad 238), .int a1] w rF wF := by
  refine q_start RX6 rfl (by decide +kernel) hJ (fun a b h => by simp only [qQI, qQV, qQR, h]) (Nat.le_of_ble_eq_true rfl) ?_
  intro p e s m args below meth c0 ls hC hr hR hl
  have hx := hC.1
  have hb := hC.2.1
  have hl : lv_has ls 2 [(0, .ref (ad 238)), (1, .int a1)] := hl
  unfold fX6_account at hf
  refine lv_aload_n hx hb dX6_account_0 rfl (lv_at hl 0 rfl) ?_
  refine lv_iload_n hx hb dX6_account_1 rfl (lv_at hl 1 rfl) ?_
  refine lv_iconst (v := 0) hx hb dX6_account_2 (by decide) ?_
  refine lv_bipush (v := 12) hx hb dX6_account_3 (by decide) ?_
  obtain ⟨r2, hq1, hf⟩ := qbd_s hf
  refine q_callSi hC hR (mX6_in (qJ hC) hq1) qk_1215 qk_1216 qk_64 qk_1217 qhd_X6_in ⟨Nat.le_of_ble_eq_true rfl, Nat.le_of_ble_eq_true rfl⟩ hl.1 rfl (Nat.le_of_ble_eq_true rfl) dX6_account_5 ⟨Nat.zero_le _, Nat.zero_le _⟩ (fun H locs hR => ?_)
  refine lv_if_eq (tgt := 15) hx hb dX6_account_8 (by decide) (fun c_3 => ?_) (fun c_3 => ?_)
  · have hf := qif_t hf c_3
    refine lv_iconst (v := 1) hx hb dX6_account_15 (by decide) ?_
    exact mX6_account_L16 hC hr _ _ _ _ _ _ hf hR (lv_sub hl [0, 1] rfl)
  · have hf := qif_f hf c_3
    refine lv_iconst (v := 0) hx hb dX6_account_11 (by decide) ?_
    refine lv_goto (tgt := 16) hx hb dX6_account_12 (by decide) ?_
    exact mX6_account_L16 hC hr _ _ _ _ _ _ hf hR (lv_sub hl [0, 1] rfl)
-- X6.isWell
def fX6_isWell (w : qMem)   : Option (Int32 × qMem) :=
  qnm (quw w 238 7 0) fun (w1 : qMem) =>
  some (1, w1)
theorem qhd_X6_isWell : yX6_isWell.cls ≠ "java/lang/invoke/MethodHandle" ∧ yX6_isWell.cls ≠ "java/lang/invoke/VarHandle" ∧ (parseMethodDescriptor yX6_isWell.desc).map (fun d => d.parameters.length) = some 0 := ⟨by decide +kernel, by decide +kernel, by decide +kernel⟩
set_option maxHeartbeats 4000000 in
set_option maxRecDepth 100000 in
theorem mX6_isWell {l : Launch} {D : va_G} {G : Nat → ClassId} {ad : Nat → Nat} (hJ : qInj ad) {w : qMem}    {rF : Int32} {wF : qMem} (hf : fX6_isWell w = some (rF, wF)) : qCMi l D G ad yX6_isWell cX6_isWell 1 (some .boolean) 1 0 0 [.ref (ad 238)] w rF wF := by
  refine q_start RX6 rfl (by decide +kernel) hJ (fun a b h => by simp only [qQI, qQV, qQR, h]) (Nat.le_of_ble_eq_true rfl) ?_
  intro p e s m args below meth c0 ls hC hr hR hl
  have hx := hC.1
  have hb := hC.2.1
  have hl : lv_has ls 1 [(0, .ref (ad 238))] := hl
  unfold fX6_isWell at hf
  refine lv_aload_n hx hb dX6_isWell_0 rfl (lv_at hl 0 rfl) ?_
  refine lv_iconst (v := 0) hx hb dX6_isWell_1 (by decide) ?_
  refine qput_X6_7 hC hR qk_1132 ⟨rfl, rfl⟩ dX6_isWell_2 (fun w1 H locs ew1 hR => ?_)
  have hf := qnm_t hf ew1
  refine lv_iconst (v := 1) hx hb dX6_isWell_5 (by decide) ?_
  exact q_iret hC hR hr (by decide) (qso2 hf).1 (qso2 hf).2 dX6_isWell_6
-- X6.undo
def fX6_undo_L13   (w : qMem) (s0 : Int32) : Option (Int32 × qMem) :=
  qnm (quw w 238 7 s0) fun (w2 : qMem) =>
  if w2 238 7 ≤ 0 then
    qnm (quw w2 238 6 ((w2 238 6) - 1)) fun (w4 : qMem) =>
    if qcpy (99 * (w4 238 6)) 0 99 792 99 = true then
    qnm (qur w4 239 (va_cpy (w4 243) (w4 239) (99 * (w4 238 6)).toNatClampNeg (0 : Int32).toNatClampNeg (99 : Int32).toNatClampNeg)) fun (w6 : qMem) =>
    some (w6 238 6, w6)
    else none
  else
    some (0, w2)
set_option maxHeartbeats 4000000 in
set_option maxRecDepth 100000 in
theorem mX6_undo_L13 {p : Program} {l : Launch} {e : Env} {s : State} {m : MethodId} {args : Array Value} {below : List Frame} {meth : Method} {c0 : Code} {D : va_G} {G : Nat → ClassId} {ad : Nat → Nat}   {rF : Int32} {wF : qMem}  (hC : qCx p c0 cX6_undo 1 s m args meth RX6 D G ad) (hr : meth.sig.returnType = some .int)  : ∀ (w : qMem) (s0 : Int32) (H : Heap) (locs : List Loc) (ls : Array Slot), fX6_undo_L13 w s0 = some (rF, wF) → qRp D G ad s w H locs → lv_has ls 1 [(0, .ref (ad 238))] → W p l e (qrm 2 0 0) s m args below meth c0 H locs 0 0 (MQ below (qQI D G ad s wF rF) args s 0 0 (qAdr ad s.heap.size)) (F0 m 13 ls [.int s0, .ref (ad 238)]) := by
  have hx := hC.1
  have hb := hC.2.1
  intro w s0 H locs ls hf hR hl
  unfold fX6_undo_L13 at hf
  refine qput_X6_7 hC hR qk_1132 ⟨rfl, rfl⟩ dX6_undo_13 (fun w2 H locs ew2 hR => ?_)
  have hf := qnm_t hf ew2
  refine lv_aload_n hx hb dX6_undo_16 rfl (lv_at hl 0 rfl) ?_
  refine qget_X6_7 hC hR qk_1132 dX6_undo_17 ?_
  refine lv_if_le (tgt := 25) hx hb dX6_undo_20 (by decide) (fun c_3 => ?_) (fun c_3 => ?_)
  · have hf := qif_t hf c_3
    refine lv_aload_n hx hb dX6_undo_25 rfl (lv_at hl 0 rfl) ?_
    refine lv_dup hx hb dX6_undo_26 rfl ?_
    refine qget_X6_6 hC hR qk_1131 dX6_undo_27 ?_
    refine lv_iconst (v := 1) hx hb dX6_undo_30 (by decide) ?_
    refine lv_isub hx hb dX6_undo_31 ?_
    refine qput_X6_6 hC hR qk_1131 ⟨rfl, rfl⟩ dX6_undo_32 (fun w4 H locs ew4 hR => ?_)
    have hf := qnm_t hf ew4
    refine lv_aload_n hx hb dX6_undo_35 rfl (lv_at hl 0 rfl) ?_
    refine qget_X6_5 hC hR qk_1130 dX6_undo_36 ?_
    refine lv_bipush (v := 99) hx hb dX6_undo_39 (by decide) ?_
    refine lv_aload_n hx hb dX6_undo_41 rfl (lv_at hl 0 rfl) ?_
    refine qget_X6_6 hC hR qk_1131 dX6_undo_42 ?_
    refine lv_imul hx hb dX6_undo_45 ?_
    refine lv_aload_n hx hb dX6_undo_46 rfl (lv_at hl 0 rfl) ?_
    refine qget_X6_0 hC hR qk_1125 dX6_undo_47 ?_
    refine lv_iconst (v := 0) hx hb dX6_undo_50 (by decide) ?_
    refine lv_bipush (v := 99) hx hb dX6_undo_51 (by decide) ?_
    obtain ⟨g5, hf⟩ := qgd hf
    refine q_copy hC hR (by decide) (by decide) (fun f => qsh_243 G ad f) (fun f => qsh_239 G ad f) g5 hl.1 qk_1205 dX6_undo_53 (Nat.le_of_ble_eq_true rfl) (Nat.le_of_ble_eq_true rfl) (fun w6 H locs ew6 hR => ?_)
    have hf := qnm_t hf ew6
    refine lv_aload_n hx hb dX6_undo_56 rfl (lv_at hl 0 rfl) ?_
    refine qget_X6_6 hC hR qk_1131 dX6_undo_57 ?_
    exact q_iret hC hR hr rfl (qso2 hf).1 (qso2 hf).2 dX6_undo_60
  · have hf := qif_f hf c_3
    refine lv_iconst (v := 0) hx hb dX6_undo_23 (by decide) ?_
    exact q_iret hC hR hr rfl (qso2 hf).1 (qso2 hf).2 dX6_undo_24
def fX6_undo (w : qMem)   : Option (Int32 × qMem) :=
  if w 238 6 = 0 then
    fX6_undo_L13 w 1
  else
    fX6_undo_L13 w 0
theorem qhd_X6_undo : yX6_undo.cls ≠ "java/lang/invoke/MethodHandle" ∧ yX6_undo.cls ≠ "java/lang/invoke/VarHandle" ∧ (parseMethodDescriptor yX6_undo.desc).map (fun d => d.parameters.length) = some 0 := ⟨by decide +kernel, by decide +kernel, by decide +kernel⟩
set_option maxHeartbeats 4000000 in
set_option maxRecDepth 100000 in
theorem mX6_undo {l : Launch} {D : va_G} {G : Nat → ClassId} {ad : Nat → Nat} (hJ : qInj ad) {w : qMem}    {rF : Int32} {wF : qMem} (hf : fX6_undo w = some (rF, wF)) : qCMi l D G ad yX6_undo cX6_undo 1 (some .int) 2 0 0 [.ref (ad 238)] w rF wF := by
  refine q_start RX6 rfl (by decide +kernel) hJ (fun a b h => by simp only [qQI, qQV, qQR, h]) (Nat.le_of_ble_eq_true rfl) ?_
  intro p e s m args below meth c0 ls hC hr hR hl
  have hx := hC.1
  have hb := hC.2.1
  have hl : lv_has ls 1 [(0, .ref (ad 238))] := hl
  unfold fX6_undo at hf
  refine lv_aload_n hx hb dX6_undo_0 rfl (lv_at hl 0 rfl) ?_
  refine lv_aload_n hx hb dX6_undo_1 rfl (lv_at hl 0 rfl) ?_
  refine qget_X6_6 hC hR qk_1131 dX6_undo_2 ?_
  refine lv_if_ne (tgt := 12) hx hb dX6_undo_5 (by decide) (fun c_1 => ?_) (fun c_1 => ?_)
  · have hf := qif_f hf c_1
    refine lv_iconst (v := 0) hx hb dX6_undo_12 (by decide) ?_
    exact mX6_undo_L13 hC hr _ _ _ _ _ hf hR (lv_sub hl [0] rfl)
  · have hf := qif_t hf c_1
    refine lv_iconst (v := 1) hx hb dX6_undo_8 (by decide) ?_
    refine lv_goto (tgt := 13) hx hb dX6_undo_9 (by decide) ?_
    exact mX6_undo_L13 hC hr _ _ _ _ _ hf hR (lv_sub hl [0] rfl)
-- X6.save
def fX6_save (w : qMem)   : Option (Int32 × qMem) :=
  qnm (quw w 238 7 0) fun (w1 : qMem) =>
  if qcpy 0 0 99 99 99 = true then
  qnm (qur w1 242 (va_cpy (w1 239) (w1 242) (0 : Int32).toNatClampNeg (0 : Int32).toNatClampNeg (99 : Int32).toNatClampNeg)) fun (w3 : qMem) =>
  qnm (quw w3 238 4 1) fun (w4 : qMem) =>
  some (w4 239 0, w4)
  else none
theorem qhd_X6_save : yX6_save.cls ≠ "java/lang/invoke/MethodHandle" ∧ yX6_save.cls ≠ "java/lang/invoke/VarHandle" ∧ (parseMethodDescriptor yX6_save.desc).map (fun d => d.parameters.length) = some 0 := ⟨by decide +kernel, by decide +kernel, by decide +kernel⟩
set_option maxHeartbeats 4000000 in
set_option maxRecDepth 100000 in
theorem mX6_save {l : Launch} {D : va_G} {G : Nat → ClassId} {ad : Nat → Nat} (hJ : qInj ad) {w : qMem}    {rF : Int32} {wF : qMem} (hf : fX6_save w = some (rF, wF)) : qCMi l D G ad yX6_save cX6_save 1 (some .int) 2 0 0 [.ref (ad 238)] w rF wF := by
  refine q_start RX6 rfl (by decide +kernel) hJ (fun a b h => by simp only [qQI, qQV, qQR, h]) (Nat.le_of_ble_eq_true rfl) ?_
  intro p e s m args below meth c0 ls hC hr hR hl
  have hx := hC.1
  have hb := hC.2.1
  have hl : lv_has ls 1 [(0, .ref (ad 238))] := hl
  unfold fX6_save at hf
  refine lv_aload_n hx hb dX6_save_0 rfl (lv_at hl 0 rfl) ?_
  refine lv_iconst (v := 0) hx hb dX6_save_1 (by decide) ?_
  refine qput_X6_7 hC hR qk_1132 ⟨rfl, rfl⟩ dX6_save_2 (fun w1 H locs ew1 hR => ?_)
  have hf := qnm_t hf ew1
  refine lv_aload_n hx hb dX6_save_5 rfl (lv_at hl 0 rfl) ?_
  refine qget_X6_0 hC hR qk_1125 dX6_save_6 ?_
  refine lv_iconst (v := 0) hx hb dX6_save_9 (by decide) ?_
  refine lv_aload_n hx hb dX6_save_10 rfl (lv_at hl 0 rfl) ?_
  refine qget_X6_3 hC hR qk_1128 dX6_save_11 ?_
  refine lv_iconst (v := 0) hx hb dX6_save_14 (by decide) ?_
  refine lv_bipush (v := 99) hx hb dX6_save_15 (by decide) ?_
  obtain ⟨g2, hf⟩ := qgd hf
  refine q_copy hC hR (by decide) (by decide) (fun f => qsh_239 G ad f) (fun f => qsh_242 G ad f) g2 hl.1 qk_1205 dX6_save_17 (Nat.le_of_ble_eq_true rfl) (Nat.le_of_ble_eq_true rfl) (fun w3 H locs ew3 hR => ?_)
  have hf := qnm_t hf ew3
  refine lv_aload_n hx hb dX6_save_20 rfl (lv_at hl 0 rfl) ?_
  refine lv_iconst (v := 1) hx hb dX6_save_21 (by decide) ?_
  refine qput_X6_4 hC hR qk_1129 ⟨by decide, by decide⟩ dX6_save_22 (fun w4 H locs ew4 hR => ?_)
  have hf := qnm_t hf ew4
  refine lv_aload_n hx hb dX6_save_25 rfl (lv_at hl 0 rfl) ?_
  refine qget_X6_0 hC hR qk_1125 dX6_save_26 ?_
  refine lv_iconst (v := 0) hx hb dX6_save_29 (by decide) ?_
  refine q_ild hC hR (j := 0) (by decide) (qsh_239 G ad _) (by decide) (by decide) dX6_save_30 ?_
  exact q_iret hC hR hr rfl (qso2 hf).1 (qso2 hf).2 dX6_save_31
-- X6.restore
def fX6_restore_L13   (w : qMem) (s0 : Int32) : Option (Int32 × qMem) :=
  qnm (quw w 238 7 s0) fun (w2 : qMem) =>
  if w2 238 7 ≤ 0 then
    if qcpy 0 0 99 99 99 = true then
    qnm (qur w2 239 (va_cpy (w2 242) (w2 239) (0 : Int32).toNatClampNeg (0 : Int32).toNatClampNeg (99 : Int32).toNatClampNeg)) fun (w5 : qMem) =>
    qnm (quw w5 238 6 0) fun (w6 : qMem) =>
    some (w6 239 0, w6)
    else none
  else
    some (0, w2)
set_option maxHeartbeats 4000000 in
set_option maxRecDepth 100000 in
theorem mX6_restore_L13 {p : Program} {l : Launch} {e : Env} {s : State} {m : MethodId} {args : Array Value} {below : List Frame} {meth : Method} {c0 : Code} {D : va_G} {G : Nat → ClassId} {ad : Nat → Nat}   {rF : Int32} {wF : qMem}  (hC : qCx p c0 cX6_restore 1 s m args meth RX6 D G ad) (hr : meth.sig.returnType = some .int)  : ∀ (w : qMem) (s0 : Int32) (H : Heap) (locs : List Loc) (ls : Array Slot), fX6_restore_L13 w s0 = some (rF, wF) → qRp D G ad s w H locs → lv_has ls 1 [(0, .ref (ad 238))] → W p l e (qrm 2 0 0) s m args below meth c0 H locs 0 0 (MQ below (qQI D G ad s wF rF) args s 0 0 (qAdr ad s.heap.size)) (F0 m 13 ls [.int s0, .ref (ad 238)]) := by
  have hx := hC.1
  have hb := hC.2.1
  intro w s0 H locs ls hf hR hl
  unfold fX6_restore_L13 at hf
  refine qput_X6_7 hC hR qk_1132 ⟨rfl, rfl⟩ dX6_restore_13 (fun w2 H locs ew2 hR => ?_)
  have hf := qnm_t hf ew2
  refine lv_aload_n hx hb dX6_restore_16 rfl (lv_at hl 0 rfl) ?_
  refine qget_X6_7 hC hR qk_1132 dX6_restore_17 ?_
  refine lv_if_le (tgt := 25) hx hb dX6_restore_20 (by decide) (fun c_3 => ?_) (fun c_3 => ?_)
  · have hf := qif_t hf c_3
    refine lv_aload_n hx hb dX6_restore_25 rfl (lv_at hl 0 rfl) ?_
    refine qget_X6_3 hC hR qk_1128 dX6_restore_26 ?_
    refine lv_iconst (v := 0) hx hb dX6_restore_29 (by decide) ?_
    refine lv_aload_n hx hb dX6_restore_30 rfl (lv_at hl 0 rfl) ?_
    refine qget_X6_0 hC hR qk_1125 dX6_restore_31 ?_
    refine lv_iconst (v := 0) hx hb dX6_restore_34 (by decide) ?_
    refine lv_bipush (v := 99) hx hb dX6_restore_35 (by decide) ?_
    obtain ⟨g4, hf⟩ := qgd hf
    refine q_copy hC hR (by decide) (by decide) (fun f => qsh_242 G ad f) (fun f => qsh_239 G ad f) g4 hl.1 qk_1205 dX6_restore_37 (Nat.le_of_ble_eq_true rfl) (Nat.le_of_ble_eq_true rfl) (fun w5 H locs ew5 hR => ?_)
    have hf := qnm_t hf ew5
    refine lv_aload_n hx hb dX6_restore_40 rfl (lv_at hl 0 rfl) ?_
    refine lv_iconst (v := 0) hx hb dX6_restore_41 (by decide) ?_
    refine qput_X6_6 hC hR qk_1131 ⟨rfl, rfl⟩ dX6_restore_42 (fun w6 H locs ew6 hR => ?_)
    have hf := qnm_t hf ew6
    refine lv_aload_n hx hb dX6_restore_45 rfl (lv_at hl 0 rfl) ?_
    refine qget_X6_0 hC hR qk_1125 dX6_restore_46 ?_
    refine lv_iconst (v := 0) hx hb dX6_restore_49 (by decide) ?_
    refine q_ild hC hR (j := 0) (by decide) (qsh_239 G ad _) (by decide) (by decide) dX6_restore_50 ?_
    exact q_iret hC hR hr rfl (qso2 hf).1 (qso2 hf).2 dX6_restore_51
  · have hf := qif_f hf c_3
    refine lv_iconst (v := 0) hx hb dX6_restore_23 (by decide) ?_
    exact q_iret hC hR hr rfl (qso2 hf).1 (qso2 hf).2 dX6_restore_24
def fX6_restore (w : qMem)   : Option (Int32 × qMem) :=
  if w 238 4 = 0 then
    fX6_restore_L13 w 1
  else
    fX6_restore_L13 w 0
theorem qhd_X6_restore : yX6_restore.cls ≠ "java/lang/invoke/MethodHandle" ∧ yX6_restore.cls ≠ "java/lang/invoke/VarHandle" ∧ (parseMethodDescriptor yX6_restore.desc).map (fun d => d.parameters.length) = some 0 := ⟨by decide +kernel, by decide +kernel, by decide +kernel⟩
set_option maxHeartbeats 4000000 in
set_option maxRecDepth 100000 in
theorem mX6_restore {l : Launch} {D : va_G} {G : Nat → ClassId} {ad : Nat → Nat} (hJ : qInj ad) {w : qMem}    {rF : Int32} {wF : qMem} (hf : fX6_restore w = some (rF, wF)) : qCMi l D G ad yX6_restore cX6_restore 1 (some .int) 2 0 0 [.ref (ad 238)] w rF wF := by
  refine q_start RX6 rfl (by decide +kernel) hJ (fun a b h => by simp only [qQI, qQV, qQR, h]) (Nat.le_of_ble_eq_true rfl) ?_
  intro p e s m args below meth c0 ls hC hr hR hl
  have hx := hC.1
  have hb := hC.2.1
  have hl : lv_has ls 1 [(0, .ref (ad 238))] := hl
  unfold fX6_restore at hf
  refine lv_aload_n hx hb dX6_restore_0 rfl (lv_at hl 0 rfl) ?_
  refine lv_aload_n hx hb dX6_restore_1 rfl (lv_at hl 0 rfl) ?_
  refine qget_X6_4 hC hR qk_1129 dX6_restore_2 ?_
  refine lv_if_eq (tgt := 12) hx hb dX6_restore_5 (by decide) (fun c_1 => ?_) (fun c_1 => ?_)
  · have hf := qif_t hf c_1
    refine lv_iconst (v := 1) hx hb dX6_restore_12 (by decide) ?_
    exact mX6_restore_L13 hC hr _ _ _ _ _ hf hR (lv_sub hl [0] rfl)
  · have hf := qif_f hf c_1
    refine lv_iconst (v := 0) hx hb dX6_restore_8 (by decide) ?_
    refine lv_goto (tgt := 13) hx hb dX6_restore_9 (by decide) ?_
    exact mX6_restore_L13 hC hr _ _ _ _ _ hf hR (lv_sub hl [0] rfl)
