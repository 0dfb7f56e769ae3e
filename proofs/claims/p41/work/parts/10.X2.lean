-- X2.signAt
def fX2_signAt (w : qMem)  (a1 : Int32) : Option (Int32) :=
  if a1 < 0 then
    some (32)
  else
    if (16 : Int32) ≤ a1 then
      some (32)
    else
      if qin a1 16 = true then
      if qisC (w 237 (a1).toNatClampNeg) = true then
      some (w 237 (a1).toNatClampNeg)
      else none
      else none
theorem qhd_X2_signAt : yX2_signAt.cls ≠ "java/lang/invoke/MethodHandle" ∧ yX2_signAt.cls ≠ "java/lang/invoke/VarHandle" ∧ (parseMethodDescriptor yX2_signAt.desc).map (fun d => d.parameters.length) = some 1 := ⟨by decide +kernel, by decide +kernel, by decide +kernel⟩
set_option maxHeartbeats 4000000 in
set_option maxRecDepth 100000 in
theorem mX2_signAt {l : Launch} {D : va_G} {G : Nat → ClassId} {ad : Nat → Nat} (hJ : qInj ad) {w : qMem}   {a1 : Int32} {rF : Int32} (hf : fX2_signAt w a1 = some rF) : qCMi l D G ad yX2_signAt cX2_signAt 2 (some .char) 1 0 0 [.ref (ad 236), .int a1] w rF w := by
  refine q_start RX2 rfl (by decide +kernel) hJ (fun a b h => by simp only [qQI, qQV, qQR, qQD, qQF, h]) (Nat.le_of_ble_eq_true rfl) ?_
  intro p e s m args below meth c0 ls hC hr hR hl
  have hx := hC.1
  have hb := hC.2.1
  have hl : lv_has ls 2 [(0, .ref (ad 236)), (1, .int a1)] := hl
  unfold fX2_signAt at hf
  refine lv_iload_n hx hb dX2_signAt_0 rfl (lv_at hl 1 rfl) ?_
  refine lv_if_lt (tgt := 22) hx hb dX2_signAt_1 (by decide) (fun c_1 => ?_) (fun c_1 => ?_)
  · have hf := qif_t hf c_1
    refine lv_bipush (v := 32) hx hb dX2_signAt_22 (by decide) ?_
    exact q_iret hC hR hr (by decide) (qso hf) rfl dX2_signAt_24
  · have hf := qif_f hf c_1
    refine lv_iload_n hx hb dX2_signAt_4 rfl (lv_at hl 1 rfl) ?_
    refine lv_aload_n hx hb dX2_signAt_5 rfl (lv_at hl 0 rfl) ?_
    refine qget_X2_0 hC hR qk_218 dX2_signAt_6 ?_
    refine q_alen (v := 16) hC hR (by decide) (qsh_237 G ad _) rfl (by decide) dX2_signAt_9 ?_
    refine lv_icmp_ge (tgt := 22) hx hb dX2_signAt_10 (by decide) (fun c_2 => ?_) (fun c_2 => ?_)
    · have hf := qif_t hf c_2
      refine lv_bipush (v := 32) hx hb dX2_signAt_22 (by decide) ?_
      exact q_iret hC hR hr (by decide) (qso hf) rfl dX2_signAt_24
    · have hf := qif_f hf c_2
      refine lv_aload_n hx hb dX2_signAt_13 rfl (lv_at hl 0 rfl) ?_
      refine qget_X2_0 hC hR qk_218 dX2_signAt_14 ?_
      refine lv_iload_n hx hb dX2_signAt_17 rfl (lv_at hl 1 rfl) ?_
      obtain ⟨g3, hf⟩ := qgd hf
      refine q_cld hC hR (j := (a1).toNatClampNeg) (by decide) (qsh_237 G ad _) g3 rfl dX2_signAt_18 ?_
      refine lv_goto (tgt := 24) hx hb dX2_signAt_19 (by decide) ?_
      obtain ⟨g4, hf⟩ := qgd hf
      exact q_iret hC hR hr (qisC_ok g4).1 (qso hf) rfl dX2_signAt_24
-- X2.put
def fX2_put (w : qMem)  (a1 : Int32) : Option (qMem) :=
  if w 236 1 < 0 then
    some w
  else
    if (16 : Int32) ≤ w 236 1 then
      some w
    else
      if qin (w 236 1) 16 = true then
      if qisC a1 = true then
      qnm (quw w 237 (w 236 1).toNatClampNeg a1) fun (w5 : qMem) =>
      qnm (quw w5 236 1 ((w5 236 1) + 1)) fun (w6 : qMem) =>
      some w6
      else none
      else none
theorem qhd_X2_put : yX2_put.cls ≠ "java/lang/invoke/MethodHandle" ∧ yX2_put.cls ≠ "java/lang/invoke/VarHandle" ∧ (parseMethodDescriptor yX2_put.desc).map (fun d => d.parameters.length) = some 1 := ⟨by decide +kernel, by decide +kernel, by decide +kernel⟩
set_option maxHeartbeats 4000000 in
set_option maxRecDepth 100000 in
theorem mX2_put {l : Launch} {D : va_G} {G : Nat → ClassId} {ad : Nat → Nat} (hJ : qInj ad) {w : qMem}   {a1 : Int32} {wF : qMem} (hf : fX2_put w a1 = some wF) : qCMv l D G ad yX2_put cX2_put 2 (none) 1 0 0 [.ref (ad 236), .int a1] w wF := by
  refine q_start RX2 rfl (by decide +kernel) hJ (fun a b h => by simp only [qQI, qQV, qQR, qQD, qQF, h]) (Nat.le_of_ble_eq_true rfl) ?_
  intro p e s m args below meth c0 ls hC hr hR hl
  have hx := hC.1
  have hb := hC.2.1
  have hl : lv_has ls 2 [(0, .ref (ad 236)), (1, .int a1)] := hl
  unfold fX2_put at hf
  refine lv_aload_n hx hb dX2_put_0 rfl (lv_at hl 0 rfl) ?_
  refine qget_X2_1 hC hR qk_219 dX2_put_1 ?_
  refine lv_if_lt (tgt := 39) hx hb dX2_put_4 (by decide) (fun c_1 => ?_) (fun c_1 => ?_)
  · have hf := qif_t hf c_1
    exact q_vret hC hR hr (qso hf) dX2_put_39
  · have hf := qif_f hf c_1
    refine lv_aload_n hx hb dX2_put_7 rfl (lv_at hl 0 rfl) ?_
    refine qget_X2_1 hC hR qk_219 dX2_put_8 ?_
    refine lv_aload_n hx hb dX2_put_11 rfl (lv_at hl 0 rfl) ?_
    refine qget_X2_0 hC hR qk_218 dX2_put_12 ?_
    refine q_alen (v := 16) hC hR (by decide) (qsh_237 G ad _) rfl (by decide) dX2_put_15 ?_
    refine lv_icmp_ge (tgt := 39) hx hb dX2_put_16 (by decide) (fun c_2 => ?_) (fun c_2 => ?_)
    · have hf := qif_t hf c_2
      exact q_vret hC hR hr (qso hf) dX2_put_39
    · have hf := qif_f hf c_2
      refine lv_aload_n hx hb dX2_put_19 rfl (lv_at hl 0 rfl) ?_
      refine qget_X2_0 hC hR qk_218 dX2_put_20 ?_
      refine lv_aload_n hx hb dX2_put_23 rfl (lv_at hl 0 rfl) ?_
      refine qget_X2_1 hC hR qk_219 dX2_put_24 ?_
      refine lv_iload_n hx hb dX2_put_27 rfl (lv_at hl 1 rfl) ?_
      obtain ⟨g3, hf⟩ := qgd hf
      obtain ⟨g4, hf⟩ := qgd hf
      refine q_cst hC hR (j := (w 236 1).toNatClampNeg) (by decide) (fun f => qsh_237 G ad f) g3 rfl g4 dX2_put_28 (fun w5 H locs ew5 hR => ?_)
      have hf := qnm_t hf ew5
      refine lv_aload_n hx hb dX2_put_29 rfl (lv_at hl 0 rfl) ?_
      refine lv_dup hx hb dX2_put_30 rfl ?_
      refine qget_X2_1 hC hR qk_219 dX2_put_31 ?_
      refine lv_iconst (v := 1) hx hb dX2_put_34 (by decide) ?_
      refine lv_iadd hx hb dX2_put_35 ?_
      refine qput_X2_1 hC hR qk_219 ⟨rfl, rfl⟩ dX2_put_36 (fun w6 H locs ew6 hR => ?_)
      have hf := qnm_t hf ew6
      exact q_vret hC hR hr (qso hf) dX2_put_39
-- X2.putNumber
def fX2_putNumber (w : qMem)  (a1 : Int32) : Option (qMem) :=
  if a1 ≤ 9 then
    qbd (fX2_put w (((48 + (a1 - a1 / 10 * 10)).toUInt32 % 65536).toInt32)) fun (w3 : qMem) =>
    some w3
  else
    qbd (fX2_put w (((48 + (a1 / 10)).toUInt32 % 65536).toInt32)) fun (w5 : qMem) =>
    qbd (fX2_put w5 (((48 + (a1 - a1 / 10 * 10)).toUInt32 % 65536).toInt32)) fun (w7 : qMem) =>
    some w7
theorem qhd_X2_putNumber : yX2_putNumber.cls ≠ "java/lang/invoke/MethodHandle" ∧ yX2_putNumber.cls ≠ "java/lang/invoke/VarHandle" ∧ (parseMethodDescriptor yX2_putNumber.desc).map (fun d => d.parameters.length) = some 1 := ⟨by decide +kernel, by decide +kernel, by decide +kernel⟩
set_option maxHeartbeats 4000000 in
set_option maxRecDepth 100000 in
theorem mX2_putNumber {l : Launch} {D : va_G} {G : Nat → ClassId} {ad : Nat → Nat} (hJ : qInj ad) {w : qMem}   {a1 : Int32} {wF : qMem} (hf : fX2_putNumber w a1 = some wF) : qCMv l D G ad yX2_putNumber cX2_putNumber 2 (none) 2 0 0 [.ref (ad 236), .int a1] w wF := by
  refine q_start RX2 rfl (by decide +kernel) hJ (fun a b h => by simp only [qQI, qQV, qQR, qQD, qQF, h]) (Nat.le_of_ble_eq_true rfl) ?_
  intro p e s m args below meth c0 ls hC hr hR hl
  have hx := hC.1
  have hb := hC.2.1
  have hl : lv_has ls 2 [(0, .ref (ad 236)), (1, .int a1)] := hl
  unfold fX2_putNumber at hf
  refine lv_iload_n hx hb dX2_putNumber_0 rfl (lv_at hl 1 rfl) ?_
  refine lv_bipush (v := 9) hx hb dX2_putNumber_1 (by decide) ?_
  refine lv_icmp_le (tgt := 18) hx hb dX2_putNumber_3 (by decide) (fun c_1 => ?_) (fun c_1 => ?_)
  · have hf := qif_t hf c_1
    refine lv_aload_n hx hb dX2_putNumber_18 rfl (lv_at hl 0 rfl) ?_
    refine lv_bipush (v := 48) hx hb dX2_putNumber_19 (by decide) ?_
    refine lv_iload_n hx hb dX2_putNumber_21 rfl (lv_at hl 1 rfl) ?_
    refine lv_bipush (v := 10) hx hb dX2_putNumber_22 (by decide) ?_
    refine lv_irem hx hb dX2_putNumber_24 (by decide) ?_
    refine lv_iadd hx hb dX2_putNumber_25 ?_
    refine lv_i2c hx hb dX2_putNumber_26 rfl ?_
    obtain ⟨w3, hq2, hf⟩ := qbd_s hf
    refine q_callVv hC hR (mX2_put (qJ hC) hq2) (by decide) (qsh_236 G ad _) rfl qk_1161 qk_1162 qk_1163 qk_24 qk_1164 qhd_X2_put ⟨Nat.le_of_ble_eq_true rfl, Nat.le_of_ble_eq_true rfl⟩ hl.1 rfl (Nat.le_of_ble_eq_true rfl) dX2_putNumber_27 ⟨Nat.zero_le _, Nat.zero_le _⟩ (fun H locs hR => ?_)
    exact q_vret hC hR hr (qso hf) dX2_putNumber_30
  · have hf := qif_f hf c_1
    refine lv_aload_n hx hb dX2_putNumber_6 rfl (lv_at hl 0 rfl) ?_
    refine lv_bipush (v := 48) hx hb dX2_putNumber_7 (by decide) ?_
    refine lv_iload_n hx hb dX2_putNumber_9 rfl (lv_at hl 1 rfl) ?_
    refine lv_bipush (v := 10) hx hb dX2_putNumber_10 (by decide) ?_
    refine lv_idiv hx hb dX2_putNumber_12 (by decide) ?_
    refine lv_iadd hx hb dX2_putNumber_13 ?_
    refine lv_i2c hx hb dX2_putNumber_14 rfl ?_
    obtain ⟨w5, hq4, hf⟩ := qbd_s hf
    refine q_callVv hC hR (mX2_put (qJ hC) hq4) (by decide) (qsh_236 G ad _) rfl qk_1161 qk_1162 qk_1163 qk_24 qk_1164 qhd_X2_put ⟨Nat.le_of_ble_eq_true rfl, Nat.le_of_ble_eq_true rfl⟩ hl.1 rfl (Nat.le_of_ble_eq_true rfl) dX2_putNumber_15 ⟨Nat.zero_le _, Nat.zero_le _⟩ (fun H locs hR => ?_)
    refine lv_aload_n hx hb dX2_putNumber_18 rfl (lv_at hl 0 rfl) ?_
    refine lv_bipush (v := 48) hx hb dX2_putNumber_19 (by decide) ?_
    refine lv_iload_n hx hb dX2_putNumber_21 rfl (lv_at hl 1 rfl) ?_
    refine lv_bipush (v := 10) hx hb dX2_putNumber_22 (by decide) ?_
    refine lv_irem hx hb dX2_putNumber_24 (by decide) ?_
    refine lv_iadd hx hb dX2_putNumber_25 ?_
    refine lv_i2c hx hb dX2_putNumber_26 rfl ?_
    obtain ⟨w7, hq6, hf⟩ := qbd_s hf
    refine q_callVv hC hR (mX2_put (qJ hC) hq6) (by decide) (qsh_236 G ad _) rfl qk_1161 qk_1162 qk_1163 qk_24 qk_1164 qhd_X2_put ⟨Nat.le_of_ble_eq_true rfl, Nat.le_of_ble_eq_true rfl⟩ hl.1 rfl (Nat.le_of_ble_eq_true rfl) dX2_putNumber_27 ⟨Nat.zero_le _, Nat.zero_le _⟩ (fun H locs hR => ?_)
    exact q_vret hC hR hr (qso hf) dX2_putNumber_30
-- X2.writeProp
def fX2_writeProp_L111 (c1 : Nat)  (w : qMem) : Option (qMem) :=
  if w c1 5 ≤ 0 then
    if w c1 4 = 0 then
      some w
    else
      qbd (fX2_put w 33) fun (w17 : qMem) =>
      some w17
  else
    qbd (fX2_put w 35) fun (w19 : qMem) =>
    qbd (fX2_putNumber w19 (w19 c1 5)) fun (w21 : qMem) =>
    if w21 c1 4 = 0 then
      some w21
    else
      qbd (fX2_put w21 33) fun (w24 : qMem) =>
      some w24
set_option maxHeartbeats 4000000 in
set_option maxRecDepth 100000 in
theorem mX2_writeProp_L111 {p : Program} {l : Launch} {e : Env} {s : State} {m : MethodId} {args : Array Value} {below : List Frame} {meth : Method} {c0 : Code} {D : va_G} {G : Nat → ClassId} {ad : Nat → Nat} {c1 : Nat} (hc1 : qisP c1) {wF : qMem}  (hC : qCx p c0 cX2_writeProp 3 s m args meth RX2 D G ad) (hr : meth.sig.returnType = none)  : ∀ (w : qMem) (H : Heap) (locs : List Loc) (ls : Array Slot), fX2_writeProp_L111 c1 w = some wF → qRp D G ad s w H locs → lv_has ls 3 [(0, .ref (ad 236)), (1, .ref (ad (c1)))] → W p l e (qrm 3 0 0) s m args below meth c0 H locs 0 0 (MQ below (qQV D G ad s wF) args s 0 0 (qAdr ad s.heap.size)) (F0 m 111 ls []) := by
  have hx := hC.1
  have hb := hC.2.1
  intro w H locs ls hf hR hl
  unfold fX2_writeProp_L111 at hf
  refine lv_aload_n hx hb dX2_writeProp_111 rfl (lv_at hl 1 rfl) ?_
  refine qget_X3_5 hC hR hc1 qk_92 dX2_writeProp_112 ?_
  refine lv_if_le (tgt := 132) hx hb dX2_writeProp_115 (by decide) (fun c_14 => ?_) (fun c_14 => ?_)
  · have hf := qif_t hf c_14
    refine lv_aload_n hx hb dX2_writeProp_132 rfl (lv_at hl 1 rfl) ?_
    refine qget_X3_4 hC hR hc1 qk_88 dX2_writeProp_133 ?_
    refine lv_if_eq (tgt := 145) hx hb dX2_writeProp_136 (by decide) (fun c_15 => ?_) (fun c_15 => ?_)
    · have hf := qif_t hf c_15
      exact q_vret hC hR hr (qso hf) dX2_writeProp_145
    · have hf := qif_f hf c_15
      refine lv_aload_n hx hb dX2_writeProp_139 rfl (lv_at hl 0 rfl) ?_
      refine lv_bipush (v := 33) hx hb dX2_writeProp_140 (by decide) ?_
      obtain ⟨w17, hq16, hf⟩ := qbd_s hf
      refine q_callVv hC hR (mX2_put (qJ hC) hq16) (by decide) (qsh_236 G ad _) rfl qk_1161 qk_1162 qk_1163 qk_24 qk_1164 qhd_X2_put ⟨Nat.le_of_ble_eq_true rfl, Nat.le_of_ble_eq_true rfl⟩ hl.1 rfl (Nat.le_of_ble_eq_true rfl) dX2_writeProp_142 ⟨Nat.zero_le _, Nat.zero_le _⟩ (fun H locs hR => ?_)
      exact q_vret hC hR hr (qso hf) dX2_writeProp_145
  · have hf := qif_f hf c_14
    refine lv_aload_n hx hb dX2_writeProp_118 rfl (lv_at hl 0 rfl) ?_
    refine lv_bipush (v := 35) hx hb dX2_writeProp_119 (by decide) ?_
    obtain ⟨w19, hq18, hf⟩ := qbd_s hf
    refine q_callVv hC hR (mX2_put (qJ hC) hq18) (by decide) (qsh_236 G ad _) rfl qk_1161 qk_1162 qk_1163 qk_24 qk_1164 qhd_X2_put ⟨Nat.le_of_ble_eq_true rfl, Nat.le_of_ble_eq_true rfl⟩ hl.1 rfl (Nat.le_of_ble_eq_true rfl) dX2_writeProp_121 ⟨Nat.zero_le _, Nat.zero_le _⟩ (fun H locs hR => ?_)
    refine lv_aload_n hx hb dX2_writeProp_124 rfl (lv_at hl 0 rfl) ?_
    refine lv_aload_n hx hb dX2_writeProp_125 rfl (lv_at hl 1 rfl) ?_
    refine qget_X3_5 hC hR hc1 qk_92 dX2_writeProp_126 ?_
    obtain ⟨w21, hq20, hf⟩ := qbd_s hf
    refine q_callVv hC hR (mX2_putNumber (qJ hC) hq20) (by decide) (qsh_236 G ad _) rfl qk_1165 qk_1166 qk_1167 qk_24 qk_1168 qhd_X2_putNumber ⟨Nat.le_of_ble_eq_true rfl, Nat.le_of_ble_eq_true rfl⟩ hl.1 rfl (Nat.le_of_ble_eq_true rfl) dX2_writeProp_129 ⟨Nat.zero_le _, Nat.zero_le _⟩ (fun H locs hR => ?_)
    refine lv_aload_n hx hb dX2_writeProp_132 rfl (lv_at hl 1 rfl) ?_
    refine qget_X3_4 hC hR hc1 qk_88 dX2_writeProp_133 ?_
    refine lv_if_eq (tgt := 145) hx hb dX2_writeProp_136 (by decide) (fun c_22 => ?_) (fun c_22 => ?_)
    · have hf := qif_t hf c_22
      exact q_vret hC hR hr (qso hf) dX2_writeProp_145
    · have hf := qif_f hf c_22
      refine lv_aload_n hx hb dX2_writeProp_139 rfl (lv_at hl 0 rfl) ?_
      refine lv_bipush (v := 33) hx hb dX2_writeProp_140 (by decide) ?_
      obtain ⟨w24, hq23, hf⟩ := qbd_s hf
      refine q_callVv hC hR (mX2_put (qJ hC) hq23) (by decide) (qsh_236 G ad _) rfl qk_1161 qk_1162 qk_1163 qk_24 qk_1164 qhd_X2_put ⟨Nat.le_of_ble_eq_true rfl, Nat.le_of_ble_eq_true rfl⟩ hl.1 rfl (Nat.le_of_ble_eq_true rfl) dX2_writeProp_142 ⟨Nat.zero_le _, Nat.zero_le _⟩ (fun H locs hR => ?_)
      exact q_vret hC hR hr (qso hf) dX2_writeProp_145
def fX2_writeProp_L89 (c1 : Nat)  (w : qMem) : Option (qMem) :=
  if w c1 0 = 2 then
    qbd (fX2_put w 126) fun (w26 : qMem) =>
    qbd (fX2_putNumber w26 (w26 c1 3)) fun (w28 : qMem) =>
    fX2_writeProp_L111 c1 w28
  else
    fX2_writeProp_L111 c1 w
set_option maxHeartbeats 4000000 in
set_option maxRecDepth 100000 in
theorem mX2_writeProp_L89 {p : Program} {l : Launch} {e : Env} {s : State} {m : MethodId} {args : Array Value} {below : List Frame} {meth : Method} {c0 : Code} {D : va_G} {G : Nat → ClassId} {ad : Nat → Nat} {c1 : Nat} (hc1 : qisP c1) {wF : qMem}  (hC : qCx p c0 cX2_writeProp 3 s m args meth RX2 D G ad) (hr : meth.sig.returnType = none)  : ∀ (w : qMem) (H : Heap) (locs : List Loc) (ls : Array Slot), fX2_writeProp_L89 c1 w = some wF → qRp D G ad s w H locs → lv_has ls 3 [(0, .ref (ad 236)), (1, .ref (ad (c1)))] → W p l e (qrm 3 0 0) s m args below meth c0 H locs 0 0 (MQ below (qQV D G ad s wF) args s 0 0 (qAdr ad s.heap.size)) (F0 m 89 ls []) := by
  have hx := hC.1
  have hb := hC.2.1
  intro w H locs ls hf hR hl
  unfold fX2_writeProp_L89 at hf
  refine lv_aload_n hx hb dX2_writeProp_89 rfl (lv_at hl 1 rfl) ?_
  refine qget_X3_0 hC hR hc1 qk_72 dX2_writeProp_90 ?_
  refine lv_iconst (v := 2) hx hb dX2_writeProp_93 (by decide) ?_
  refine lv_icmp_ne (tgt := 111) hx hb dX2_writeProp_94 (by decide) (fun c_13 => ?_) (fun c_13 => ?_)
  · have hf := qif_f hf c_13
    exact mX2_writeProp_L111 hc1 hC hr _ _ _ _ hf hR (lv_sub hl [0, 1] rfl)
  · have hf := qif_t hf c_13
    refine lv_aload_n hx hb dX2_writeProp_97 rfl (lv_at hl 0 rfl) ?_
    refine lv_bipush (v := 126) hx hb dX2_writeProp_98 (by decide) ?_
    obtain ⟨w26, hq25, hf⟩ := qbd_s hf
    refine q_callVv hC hR (mX2_put (qJ hC) hq25) (by decide) (qsh_236 G ad _) rfl qk_1161 qk_1162 qk_1163 qk_24 qk_1164 qhd_X2_put ⟨Nat.le_of_ble_eq_true rfl, Nat.le_of_ble_eq_true rfl⟩ hl.1 rfl (Nat.le_of_ble_eq_true rfl) dX2_writeProp_100 ⟨Nat.zero_le _, Nat.zero_le _⟩ (fun H locs hR => ?_)
    refine lv_aload_n hx hb dX2_writeProp_103 rfl (lv_at hl 0 rfl) ?_
    refine lv_aload_n hx hb dX2_writeProp_104 rfl (lv_at hl 1 rfl) ?_
    refine qget_X3_3 hC hR hc1 qk_84 dX2_writeProp_105 ?_
    obtain ⟨w28, hq27, hf⟩ := qbd_s hf
    refine q_callVv hC hR (mX2_putNumber (qJ hC) hq27) (by decide) (qsh_236 G ad _) rfl qk_1165 qk_1166 qk_1167 qk_24 qk_1168 qhd_X2_putNumber ⟨Nat.le_of_ble_eq_true rfl, Nat.le_of_ble_eq_true rfl⟩ hl.1 rfl (Nat.le_of_ble_eq_true rfl) dX2_writeProp_108 ⟨Nat.zero_le _, Nat.zero_le _⟩ (fun H locs hR => ?_)
    exact mX2_writeProp_L111 hc1 hC hr _ _ _ _ hf hR (lv_sub hl [0, 1] rfl)
def fX2_writeProp_L69 (c1 : Nat)  : Nat → qMem → Int32 → Option (qMem)
  | 0, _, _ => none
  | n + 1, w, x2 =>
    if w c1 3 ≤ x2 then
      fX2_writeProp_L89 c1 w
    else
      qbd (fX2_put w 39) fun (w31 : qMem) =>
      qnm (x2 + 1) fun (x32 : Int32) =>
      fX2_writeProp_L69 c1 n w31 x32
set_option maxHeartbeats 4000000 in
set_option maxRecDepth 100000 in
theorem mX2_writeProp_L69 {p : Program} {l : Launch} {e : Env} {s : State} {m : MethodId} {args : Array Value} {below : List Frame} {meth : Method} {c0 : Code} {D : va_G} {G : Nat → ClassId} {ad : Nat → Nat} {c1 : Nat} (hc1 : qisP c1) {wF : qMem}  (hC : qCx p c0 cX2_writeProp 3 s m args meth RX2 D G ad) (hr : meth.sig.returnType = none)  : ∀ (n : Nat), ∀ (w : qMem) (x2 : Int32) (H : Heap) (locs : List Loc) (ls : Array Slot), fX2_writeProp_L69 c1 n w x2 = some wF → qRp D G ad s w H locs → lv_has ls 3 [(0, .ref (ad 236)), (1, .ref (ad (c1))), (2, .int x2)] → W p l e (qrm 3 0 0) s m args below meth c0 H locs 0 0 (MQ below (qQV D G ad s wF) args s 0 0 (qAdr ad s.heap.size)) (F0 m 69 ls []) := by
  have hx := hC.1
  have hb := hC.2.1
  intro n
  induction n with
  | zero => intro w x2 H locs ls hf; exact nomatch (show (none : Option (qMem)) = some _ from hf)
  | succ n ih =>
    intro w x2 H locs ls hf hR hl
    rw [fX2_writeProp_L69] at hf
    refine lv_iload_n hx hb dX2_writeProp_69 rfl (lv_at hl 2 rfl) ?_
    refine lv_aload_n hx hb dX2_writeProp_70 rfl (lv_at hl 1 rfl) ?_
    refine qget_X3_3 hC hR hc1 qk_84 dX2_writeProp_71 ?_
    refine lv_icmp_ge (tgt := 89) hx hb dX2_writeProp_74 (by decide) (fun c_29 => ?_) (fun c_29 => ?_)
    · have hf := qif_t hf c_29
      exact mX2_writeProp_L89 hc1 hC hr _ _ _ _ hf hR (lv_sub hl [0, 1] rfl)
    · have hf := qif_f hf c_29
      refine lv_aload_n hx hb dX2_writeProp_77 rfl (lv_at hl 0 rfl) ?_
      refine lv_bipush (v := 39) hx hb dX2_writeProp_78 (by decide) ?_
      obtain ⟨w31, hq30, hf⟩ := qbd_s hf
      refine q_callVv hC hR (mX2_put (qJ hC) hq30) (by decide) (qsh_236 G ad _) rfl qk_1161 qk_1162 qk_1163 qk_24 qk_1164 qhd_X2_put ⟨Nat.le_of_ble_eq_true rfl, Nat.le_of_ble_eq_true rfl⟩ hl.1 rfl (Nat.le_of_ble_eq_true rfl) dX2_writeProp_80 ⟨Nat.zero_le _, Nat.zero_le _⟩ (fun H locs hR => ?_)
      obtain ⟨x32, ex32⟩ : ∃ y : Int32, y = x2 + 1 := ⟨_, rfl⟩
      have hf := qnm_t hf ex32
      refine lv_iinc (v := x32) (lv' := [(2, .int x32), (0, .ref (ad 236)), (1, .ref (ad (c1)))]) hx hb dX2_writeProp_83 hl (k := 2) rfl (by rw [ex32]; rfl) (by decide) rfl (fun ls hl => ?_)
      refine lv_goto (tgt := 69) hx hb dX2_writeProp_86 (by decide) ?_
      exact ih _ _ _ _ _ hf hR (lv_sub hl [1, 2, 0] rfl)
def fX2_writeProp_L34 (c1 : Nat)  (w : qMem) (s0 : Int32) : Option (qMem) :=
  qbd (fX2_put w s0) fun (w5 : qMem) =>
  qbd (fX2_putNumber w5 (w5 c1 1)) fun (w7 : qMem) =>
  qbd (fX2_put w7 58) fun (w9 : qMem) =>
  qbd (fX2_putNumber w9 (w9 c1 2)) fun (w11 : qMem) =>
  if w11 c1 0 = 1 then
    fX2_writeProp_L69 c1 100 w11 0
  else
    fX2_writeProp_L89 c1 w11
set_option maxHeartbeats 4000000 in
set_option maxRecDepth 100000 in
theorem mX2_writeProp_L34 {p : Program} {l : Launch} {e : Env} {s : State} {m : MethodId} {args : Array Value} {below : List Frame} {meth : Method} {c0 : Code} {D : va_G} {G : Nat → ClassId} {ad : Nat → Nat} {c1 : Nat} (hc1 : qisP c1) {wF : qMem}  (hC : qCx p c0 cX2_writeProp 3 s m args meth RX2 D G ad) (hr : meth.sig.returnType = none)  : ∀ (w : qMem) (s0 : Int32) (H : Heap) (locs : List Loc) (ls : Array Slot), fX2_writeProp_L34 c1 w s0 = some wF → qRp D G ad s w H locs → lv_has ls 3 [(0, .ref (ad 236)), (1, .ref (ad (c1)))] → W p l e (qrm 3 0 0) s m args below meth c0 H locs 0 0 (MQ below (qQV D G ad s wF) args s 0 0 (qAdr ad s.heap.size)) (F0 m 34 ls [.int s0, .ref (ad 236)]) := by
  have hx := hC.1
  have hb := hC.2.1
  intro w s0 H locs ls hf hR hl
  unfold fX2_writeProp_L34 at hf
  obtain ⟨w5, hq4, hf⟩ := qbd_s hf
  refine q_callVv hC hR (mX2_put (qJ hC) hq4) (by decide) (qsh_236 G ad _) rfl qk_1161 qk_1162 qk_1163 qk_24 qk_1164 qhd_X2_put ⟨Nat.le_of_ble_eq_true rfl, Nat.le_of_ble_eq_true rfl⟩ hl.1 rfl (Nat.le_of_ble_eq_true rfl) dX2_writeProp_34 ⟨Nat.zero_le _, Nat.zero_le _⟩ (fun H locs hR => ?_)
  refine lv_aload_n hx hb dX2_writeProp_37 rfl (lv_at hl 0 rfl) ?_
  refine lv_aload_n hx hb dX2_writeProp_38 rfl (lv_at hl 1 rfl) ?_
  refine qget_X3_1 hC hR hc1 qk_76 dX2_writeProp_39 ?_
  obtain ⟨w7, hq6, hf⟩ := qbd_s hf
  refine q_callVv hC hR (mX2_putNumber (qJ hC) hq6) (by decide) (qsh_236 G ad _) rfl qk_1165 qk_1166 qk_1167 qk_24 qk_1168 qhd_X2_putNumber ⟨Nat.le_of_ble_eq_true rfl, Nat.le_of_ble_eq_true rfl⟩ hl.1 rfl (Nat.le_of_ble_eq_true rfl) dX2_writeProp_42 ⟨Nat.zero_le _, Nat.zero_le _⟩ (fun H locs hR => ?_)
  refine lv_aload_n hx hb dX2_writeProp_45 rfl (lv_at hl 0 rfl) ?_
  refine lv_bipush (v := 58) hx hb dX2_writeProp_46 (by decide) ?_
  obtain ⟨w9, hq8, hf⟩ := qbd_s hf
  refine q_callVv hC hR (mX2_put (qJ hC) hq8) (by decide) (qsh_236 G ad _) rfl qk_1161 qk_1162 qk_1163 qk_24 qk_1164 qhd_X2_put ⟨Nat.le_of_ble_eq_true rfl, Nat.le_of_ble_eq_true rfl⟩ hl.1 rfl (Nat.le_of_ble_eq_true rfl) dX2_writeProp_48 ⟨Nat.zero_le _, Nat.zero_le _⟩ (fun H locs hR => ?_)
  refine lv_aload_n hx hb dX2_writeProp_51 rfl (lv_at hl 0 rfl) ?_
  refine lv_aload_n hx hb dX2_writeProp_52 rfl (lv_at hl 1 rfl) ?_
  refine qget_X3_2 hC hR hc1 qk_80 dX2_writeProp_53 ?_
  obtain ⟨w11, hq10, hf⟩ := qbd_s hf
  refine q_callVv hC hR (mX2_putNumber (qJ hC) hq10) (by decide) (qsh_236 G ad _) rfl qk_1165 qk_1166 qk_1167 qk_24 qk_1168 qhd_X2_putNumber ⟨Nat.le_of_ble_eq_true rfl, Nat.le_of_ble_eq_true rfl⟩ hl.1 rfl (Nat.le_of_ble_eq_true rfl) dX2_writeProp_56 ⟨Nat.zero_le _, Nat.zero_le _⟩ (fun H locs hR => ?_)
  refine lv_aload_n hx hb dX2_writeProp_59 rfl (lv_at hl 1 rfl) ?_
  refine qget_X3_0 hC hR hc1 qk_72 dX2_writeProp_60 ?_
  refine lv_iconst (v := 1) hx hb dX2_writeProp_63 (by decide) ?_
  refine lv_icmp_ne (tgt := 89) hx hb dX2_writeProp_64 (by decide) (fun c_12 => ?_) (fun c_12 => ?_)
  · have hf := qif_f hf c_12
    exact mX2_writeProp_L89 hc1 hC hr _ _ _ _ hf hR (lv_sub hl [0, 1] rfl)
  · have hf := qif_t hf c_12
    refine lv_iconst (v := 0) hx hb dX2_writeProp_67 (by decide) ?_
    refine lv_istore_n (lv' := [(2, .int 0), (0, .ref (ad 236)), (1, .ref (ad (c1)))]) hx hb dX2_writeProp_68 rfl hl (by decide) rfl (fun ls hl => ?_)
    exact mX2_writeProp_L69 hc1 hC hr 100 _ _ _ _ _ hf hR (lv_sub hl [1, 2, 0] rfl)
def fX2_writeProp (w : qMem) (c1 : Nat)  : Option (qMem) :=
  qnm (quw w 236 1 0) fun (w1 : qMem) =>
  if w1 c1 0 = 1 then
    fX2_writeProp_L34 c1 w1 99
  else
    if w1 c1 0 = 2 then
      fX2_writeProp_L34 c1 w1 108
    else
      fX2_writeProp_L34 c1 w1 107
theorem qhd_X2_writeProp : yX2_writeProp.cls ≠ "java/lang/invoke/MethodHandle" ∧ yX2_writeProp.cls ≠ "java/lang/invoke/VarHandle" ∧ (parseMethodDescriptor yX2_writeProp.desc).map (fun d => d.parameters.length) = some 1 := ⟨by decide +kernel, by decide +kernel, by decide +kernel⟩
set_option maxHeartbeats 4000000 in
set_option maxRecDepth 100000 in
theorem mX2_writeProp {l : Launch} {D : va_G} {G : Nat → ClassId} {ad : Nat → Nat} (hJ : qInj ad) {w : qMem} {c1 : Nat} (hc1 : qisP c1)  {wF : qMem} (hf : fX2_writeProp w c1 = some wF) : qCMv l D G ad yX2_writeProp cX2_writeProp 3 (none) 3 0 0 [.ref (ad 236), .ref (ad (c1))] w wF := by
  refine q_start RX2 rfl (by decide +kernel) hJ (fun a b h => by simp only [qQI, qQV, qQR, qQD, qQF, h]) (Nat.le_of_ble_eq_true rfl) ?_
  intro p e s m args below meth c0 ls hC hr hR hl
  have hx := hC.1
  have hb := hC.2.1
  have hl : lv_has ls 3 [(0, .ref (ad 236)), (1, .ref (ad (c1)))] := hl
  unfold fX2_writeProp at hf
  refine lv_aload_n hx hb dX2_writeProp_0 rfl (lv_at hl 0 rfl) ?_
  refine lv_iconst (v := 0) hx hb dX2_writeProp_1 (by decide) ?_
  refine qput_X2_1 hC hR qk_219 ⟨rfl, rfl⟩ dX2_writeProp_2 (fun w1 H locs ew1 hR => ?_)
  have hf := qnm_t hf ew1
  refine lv_aload_n hx hb dX2_writeProp_5 rfl (lv_at hl 0 rfl) ?_
  refine lv_aload_n hx hb dX2_writeProp_6 rfl (lv_at hl 1 rfl) ?_
  refine qget_X3_0 hC hR hc1 qk_72 dX2_writeProp_7 ?_
  refine lv_iconst (v := 1) hx hb dX2_writeProp_10 (by decide) ?_
  refine lv_icmp_ne (tgt := 19) hx hb dX2_writeProp_11 (by decide) (fun c_2 => ?_) (fun c_2 => ?_)
  · have hf := qif_f hf c_2
    refine lv_aload_n hx hb dX2_writeProp_19 rfl (lv_at hl 1 rfl) ?_
    refine qget_X3_0 hC hR hc1 qk_72 dX2_writeProp_20 ?_
    refine lv_iconst (v := 2) hx hb dX2_writeProp_23 (by decide) ?_
    refine lv_icmp_ne (tgt := 32) hx hb dX2_writeProp_24 (by decide) (fun c_3 => ?_) (fun c_3 => ?_)
    · have hf := qif_f hf c_3
      refine lv_bipush (v := 107) hx hb dX2_writeProp_32 (by decide) ?_
      exact mX2_writeProp_L34 hc1 hC hr _ _ _ _ _ hf hR (lv_sub hl [0, 1] rfl)
    · have hf := qif_t hf c_3
      refine lv_bipush (v := 108) hx hb dX2_writeProp_27 (by decide) ?_
      refine lv_goto (tgt := 34) hx hb dX2_writeProp_29 (by decide) ?_
      exact mX2_writeProp_L34 hc1 hC hr _ _ _ _ _ hf hR (lv_sub hl [0, 1] rfl)
  · have hf := qif_t hf c_2
    refine lv_bipush (v := 99) hx hb dX2_writeProp_14 (by decide) ?_
    refine lv_goto (tgt := 34) hx hb dX2_writeProp_16 (by decide) ?_
    exact mX2_writeProp_L34 hc1 hC hr _ _ _ _ _ hf hR (lv_sub hl [0, 1] rfl)
-- X2.writeProgramme
def fX2_writeProgramme_L7 (h1 : Nat)  : Nat → qMem → Int32 → Option (qMem)
  | 0, _, _ => none
  | n + 1, w, x2 =>
    if w (19 * h1) 4 ≤ x2 then
      some w
    else
      qbd (fX0_plannedAt w h1 x2) fun (r4 : Int32) =>
      qbd (fX2_putNumber w r4) fun (w6 : qMem) =>
      qnm (x2 + 1) fun (x7 : Int32) =>
      fX2_writeProgramme_L7 h1 n w6 x7
set_option maxHeartbeats 4000000 in
set_option maxRecDepth 100000 in
theorem mX2_writeProgramme_L7 {p : Program} {l : Launch} {e : Env} {s : State} {m : MethodId} {args : Array Value} {below : List Frame} {meth : Method} {c0 : Code} {D : va_G} {G : Nat → ClassId} {ad : Nat → Nat} {h1 : Nat} (hh1 : h1 < 12) {wF : qMem}  (hC : qCx p c0 cX2_writeProgramme 3 s m args meth RX2 D G ad) (hr : meth.sig.returnType = none)  : ∀ (n : Nat), ∀ (w : qMem) (x2 : Int32) (H : Heap) (locs : List Loc) (ls : Array Slot), fX2_writeProgramme_L7 h1 n w x2 = some wF → qRp D G ad s w H locs → lv_has ls 3 [(0, .ref (ad 236)), (1, .ref (ad (19 * h1))), (2, .int x2)] → W p l e (qrm 3 0 0) s m args below meth c0 H locs 0 0 (MQ below (qQV D G ad s wF) args s 0 0 (qAdr ad s.heap.size)) (F0 m 7 ls []) := by
  have hx := hC.1
  have hb := hC.2.1
  intro n
  induction n with
  | zero => intro w x2 H locs ls hf; exact nomatch (show (none : Option (qMem)) = some _ from hf)
  | succ n ih =>
    intro w x2 H locs ls hf hR hl
    rw [fX2_writeProgramme_L7] at hf
    refine lv_iload_n hx hb dX2_writeProgramme_7 rfl (lv_at hl 2 rfl) ?_
    refine lv_aload_n hx hb dX2_writeProgramme_8 rfl (lv_at hl 1 rfl) ?_
    refine qget_X0_4 hC hR hh1 qk_117 dX2_writeProgramme_9 ?_
    refine lv_icmp_ge (tgt := 30) hx hb dX2_writeProgramme_12 (by decide) (fun c_2 => ?_) (fun c_2 => ?_)
    · have hf := qif_t hf c_2
      exact q_vret hC hR hr (qso hf) dX2_writeProgramme_30
    · have hf := qif_f hf c_2
      refine lv_aload_n hx hb dX2_writeProgramme_15 rfl (lv_at hl 0 rfl) ?_
      refine lv_aload_n hx hb dX2_writeProgramme_16 rfl (lv_at hl 1 rfl) ?_
      refine lv_iload_n hx hb dX2_writeProgramme_17 rfl (lv_at hl 2 rfl) ?_
      obtain ⟨r4, hq3, hf⟩ := qbd_s hf
      refine q_callVi hC hR (mX0_plannedAt (qJ hC) hh1 hq3) (by have := hh1; omega) (qsh_hall G ad _ hh1) rfl qk_1193 qk_421 qk_422 qk_20 qk_423 qhd_X0_plannedAt ⟨Nat.le_of_ble_eq_true rfl, Nat.le_of_ble_eq_true rfl⟩ hl.1 rfl (Nat.le_of_ble_eq_true rfl) dX2_writeProgramme_18 ⟨Nat.zero_le _, Nat.zero_le _⟩ (fun H locs hR => ?_)
      obtain ⟨w6, hq5, hf⟩ := qbd_s hf
      refine q_callVv hC hR (mX2_putNumber (qJ hC) hq5) (by decide) (qsh_236 G ad _) rfl qk_1165 qk_1166 qk_1167 qk_24 qk_1168 qhd_X2_putNumber ⟨Nat.le_of_ble_eq_true rfl, Nat.le_of_ble_eq_true rfl⟩ hl.1 rfl (Nat.le_of_ble_eq_true rfl) dX2_writeProgramme_21 ⟨Nat.zero_le _, Nat.zero_le _⟩ (fun H locs hR => ?_)
      obtain ⟨x7, ex7⟩ : ∃ y : Int32, y = x2 + 1 := ⟨_, rfl⟩
      have hf := qnm_t hf ex7
      refine lv_iinc (v := x7) (lv' := [(2, .int x7), (0, .ref (ad 236)), (1, .ref (ad (19 * h1)))]) hx hb dX2_writeProgramme_24 hl (k := 2) rfl (by rw [ex7]; rfl) (by decide) rfl (fun ls hl => ?_)
      refine lv_goto (tgt := 7) hx hb dX2_writeProgramme_27 (by decide) ?_
      exact ih _ _ _ _ _ hf hR (lv_sub hl [1, 2, 0] rfl)
def fX2_writeProgramme (w : qMem) (h1 : Nat)  : Option (qMem) :=
  qnm (quw w 236 1 0) fun (w1 : qMem) =>
  fX2_writeProgramme_L7 h1 100 w1 0
theorem qhd_X2_writeProgramme : yX2_writeProgramme.cls ≠ "java/lang/invoke/MethodHandle" ∧ yX2_writeProgramme.cls ≠ "java/lang/invoke/VarHandle" ∧ (parseMethodDescriptor yX2_writeProgramme.desc).map (fun d => d.parameters.length) = some 1 := ⟨by decide +kernel, by decide +kernel, by decide +kernel⟩
set_option maxHeartbeats 4000000 in
set_option maxRecDepth 100000 in
theorem mX2_writeProgramme {l : Launch} {D : va_G} {G : Nat → ClassId} {ad : Nat → Nat} (hJ : qInj ad) {w : qMem} {h1 : Nat} (hh1 : h1 < 12)  {wF : qMem} (hf : fX2_writeProgramme w h1 = some wF) : qCMv l D G ad yX2_writeProgramme cX2_writeProgramme 3 (none) 3 0 0 [.ref (ad 236), .ref (ad (19 * h1))] w wF := by
  refine q_start RX2 rfl (by decide +kernel) hJ (fun a b h => by simp only [qQI, qQV, qQR, qQD, qQF, h]) (Nat.le_of_ble_eq_true rfl) ?_
  intro p e s m args below meth c0 ls hC hr hR hl
  have hx := hC.1
  have hb := hC.2.1
  have hl : lv_has ls 3 [(0, .ref (ad 236)), (1, .ref (ad (19 * h1)))] := hl
  unfold fX2_writeProgramme at hf
  refine lv_aload_n hx hb dX2_writeProgramme_0 rfl (lv_at hl 0 rfl) ?_
  refine lv_iconst (v := 0) hx hb dX2_writeProgramme_1 (by decide) ?_
  refine qput_X2_1 hC hR qk_219 ⟨rfl, rfl⟩ dX2_writeProgramme_2 (fun w1 H locs ew1 hR => ?_)
  have hf := qnm_t hf ew1
  refine lv_iconst (v := 0) hx hb dX2_writeProgramme_5 (by decide) ?_
  refine lv_istore_n (lv' := [(2, .int 0), (0, .ref (ad 236)), (1, .ref (ad (19 * h1)))]) hx hb dX2_writeProgramme_6 rfl hl (by decide) rfl (fun ls hl => ?_)
  exact mX2_writeProgramme_L7 hh1 hC hr 100 _ _ _ _ _ hf hR (lv_sub hl [1, 2, 0] rfl)
