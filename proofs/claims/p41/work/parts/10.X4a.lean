-- X4.put
def fX4_put (w : qMem)  (a1 : Int32) : Option (qMem) :=
  if w 231 1 < 0 then
    some w
  else
    if (60 : Int32) ≤ w 231 1 then
      some w
    else
      if qin (w 231 1) 60 = true then
      if qisC a1 = true then
      qnm (quw w 232 (w 231 1).toNatClampNeg a1) fun (w5 : qMem) =>
      qnm (quw w5 231 1 ((w5 231 1) + 1)) fun (w6 : qMem) =>
      some w6
      else none
      else none
theorem qhd_X4_put : yX4_put.cls ≠ "java/lang/invoke/MethodHandle" ∧ yX4_put.cls ≠ "java/lang/invoke/VarHandle" ∧ (parseMethodDescriptor yX4_put.desc).map (fun d => d.parameters.length) = some 1 := ⟨by decide +kernel, by decide +kernel, by decide +kernel⟩
set_option maxHeartbeats 4000000 in
set_option maxRecDepth 100000 in
theorem mX4_put {l : Launch} {D : va_G} {G : Nat → ClassId} {ad : Nat → Nat} (hJ : qInj ad) {w : qMem}   {a1 : Int32} {wF : qMem} (hf : fX4_put w a1 = some wF) : qCMv l D G ad yX4_put cX4_put 2 (none) 1 0 0 [.ref (ad 231), .int a1] w wF := by
  refine q_start RX4 rfl (by decide +kernel) hJ (fun a b h => by simp only [qQI, qQV, qQR, qQD, qQF, h]) (Nat.le_of_ble_eq_true rfl) ?_
  intro p e s m args below meth c0 ls hC hr hR hl
  have hx := hC.1
  have hb := hC.2.1
  have hl : lv_has ls 2 [(0, .ref (ad 231)), (1, .int a1)] := hl
  unfold fX4_put at hf
  refine lv_aload_n hx hb dX4_put_0 rfl (lv_at hl 0 rfl) ?_
  refine qget_X4_1 hC hR qk_188 dX4_put_1 ?_
  refine lv_if_lt (tgt := 39) hx hb dX4_put_4 (by decide) (fun c_1 => ?_) (fun c_1 => ?_)
  · have hf := qif_t hf c_1
    exact q_vret hC hR hr (qso hf) dX4_put_39
  · have hf := qif_f hf c_1
    refine lv_aload_n hx hb dX4_put_7 rfl (lv_at hl 0 rfl) ?_
    refine qget_X4_1 hC hR qk_188 dX4_put_8 ?_
    refine lv_aload_n hx hb dX4_put_11 rfl (lv_at hl 0 rfl) ?_
    refine qget_X4_0 hC hR qk_187 dX4_put_12 ?_
    refine q_alen (v := 60) hC hR (by decide) (qsh_232 G ad _) rfl (by decide) dX4_put_15 ?_
    refine lv_icmp_ge (tgt := 39) hx hb dX4_put_16 (by decide) (fun c_2 => ?_) (fun c_2 => ?_)
    · have hf := qif_t hf c_2
      exact q_vret hC hR hr (qso hf) dX4_put_39
    · have hf := qif_f hf c_2
      refine lv_aload_n hx hb dX4_put_19 rfl (lv_at hl 0 rfl) ?_
      refine qget_X4_0 hC hR qk_187 dX4_put_20 ?_
      refine lv_aload_n hx hb dX4_put_23 rfl (lv_at hl 0 rfl) ?_
      refine qget_X4_1 hC hR qk_188 dX4_put_24 ?_
      refine lv_iload_n hx hb dX4_put_27 rfl (lv_at hl 1 rfl) ?_
      obtain ⟨g3, hf⟩ := qgd hf
      obtain ⟨g4, hf⟩ := qgd hf
      refine q_cst hC hR (j := (w 231 1).toNatClampNeg) (by decide) (fun f => qsh_232 G ad f) g3 rfl g4 dX4_put_28 (fun w5 H locs ew5 hR => ?_)
      have hf := qnm_t hf ew5
      refine lv_aload_n hx hb dX4_put_29 rfl (lv_at hl 0 rfl) ?_
      refine lv_dup hx hb dX4_put_30 rfl ?_
      refine qget_X4_1 hC hR qk_188 dX4_put_31 ?_
      refine lv_iconst (v := 1) hx hb dX4_put_34 (by decide) ?_
      refine lv_iadd hx hb dX4_put_35 ?_
      refine qput_X4_1 hC hR qk_188 ⟨rfl, rfl⟩ dX4_put_36 (fun w6 H locs ew6 hR => ?_)
      have hf := qnm_t hf ew6
      exact q_vret hC hR hr (qso hf) dX4_put_39
-- X4.isNext
def fX4_isNext (w : qMem)  (a1 : Int32) (a2 : Int32) : Option (Int32) :=
  if a1 < 0 then
    some (0)
  else
    if w 231 1 ≤ a1 then
      some (0)
    else
      if (60 : Int32) ≤ a1 then
        some (0)
      else
        if qin a1 60 = true then
        if w 232 (a1).toNatClampNeg = a2 then
          some (1)
        else
          some (0)
        else none
theorem qhd_X4_isNext : yX4_isNext.cls ≠ "java/lang/invoke/MethodHandle" ∧ yX4_isNext.cls ≠ "java/lang/invoke/VarHandle" ∧ (parseMethodDescriptor yX4_isNext.desc).map (fun d => d.parameters.length) = some 2 := ⟨by decide +kernel, by decide +kernel, by decide +kernel⟩
set_option maxHeartbeats 4000000 in
set_option maxRecDepth 100000 in
theorem mX4_isNext {l : Launch} {D : va_G} {G : Nat → ClassId} {ad : Nat → Nat} (hJ : qInj ad) {w : qMem}   {a1 : Int32} {a2 : Int32} {rF : Int32} (hf : fX4_isNext w a1 a2 = some rF) : qCMi l D G ad yX4_isNext cX4_isNext 3 (some .boolean) 1 0 0 [.ref (ad 231), .int a1, .int a2] w rF w := by
  refine q_start RX4 rfl (by decide +kernel) hJ (fun a b h => by simp only [qQI, qQV, qQR, qQD, qQF, h]) (Nat.le_of_ble_eq_true rfl) ?_
  intro p e s m args below meth c0 ls hC hr hR hl
  have hx := hC.1
  have hb := hC.2.1
  have hl : lv_has ls 3 [(0, .ref (ad 231)), (1, .int a1), (2, .int a2)] := hl
  unfold fX4_isNext at hf
  refine lv_iload_n hx hb dX4_isNext_0 rfl (lv_at hl 1 rfl) ?_
  refine lv_if_lt (tgt := 35) hx hb dX4_isNext_1 (by decide) (fun c_1 => ?_) (fun c_1 => ?_)
  · have hf := qif_t hf c_1
    refine lv_iconst (v := 0) hx hb dX4_isNext_35 (by decide) ?_
    exact q_iret hC hR hr (by decide) (qso hf) rfl dX4_isNext_36
  · have hf := qif_f hf c_1
    refine lv_iload_n hx hb dX4_isNext_4 rfl (lv_at hl 1 rfl) ?_
    refine lv_aload_n hx hb dX4_isNext_5 rfl (lv_at hl 0 rfl) ?_
    refine qget_X4_1 hC hR qk_188 dX4_isNext_6 ?_
    refine lv_icmp_ge (tgt := 35) hx hb dX4_isNext_9 (by decide) (fun c_2 => ?_) (fun c_2 => ?_)
    · have hf := qif_t hf c_2
      refine lv_iconst (v := 0) hx hb dX4_isNext_35 (by decide) ?_
      exact q_iret hC hR hr (by decide) (qso hf) rfl dX4_isNext_36
    · have hf := qif_f hf c_2
      refine lv_iload_n hx hb dX4_isNext_12 rfl (lv_at hl 1 rfl) ?_
      refine lv_aload_n hx hb dX4_isNext_13 rfl (lv_at hl 0 rfl) ?_
      refine qget_X4_0 hC hR qk_187 dX4_isNext_14 ?_
      refine q_alen (v := 60) hC hR (by decide) (qsh_232 G ad _) rfl (by decide) dX4_isNext_17 ?_
      refine lv_icmp_ge (tgt := 35) hx hb dX4_isNext_18 (by decide) (fun c_3 => ?_) (fun c_3 => ?_)
      · have hf := qif_t hf c_3
        refine lv_iconst (v := 0) hx hb dX4_isNext_35 (by decide) ?_
        exact q_iret hC hR hr (by decide) (qso hf) rfl dX4_isNext_36
      · have hf := qif_f hf c_3
        refine lv_aload_n hx hb dX4_isNext_21 rfl (lv_at hl 0 rfl) ?_
        refine qget_X4_0 hC hR qk_187 dX4_isNext_22 ?_
        refine lv_iload_n hx hb dX4_isNext_25 rfl (lv_at hl 1 rfl) ?_
        obtain ⟨g4, hf⟩ := qgd hf
        refine q_cld hC hR (j := (a1).toNatClampNeg) (by decide) (qsh_232 G ad _) g4 rfl dX4_isNext_26 ?_
        refine lv_iload_n hx hb dX4_isNext_27 rfl (lv_at hl 2 rfl) ?_
        refine lv_icmp_ne (tgt := 35) hx hb dX4_isNext_28 (by decide) (fun c_5 => ?_) (fun c_5 => ?_)
        · have hf := qif_f hf c_5
          refine lv_iconst (v := 0) hx hb dX4_isNext_35 (by decide) ?_
          exact q_iret hC hR hr (by decide) (qso hf) rfl dX4_isNext_36
        · have hf := qif_t hf c_5
          refine lv_iconst (v := 1) hx hb dX4_isNext_31 (by decide) ?_
          refine lv_goto (tgt := 36) hx hb dX4_isNext_32 (by decide) ?_
          exact q_iret hC hR hr (by decide) (qso hf) rfl dX4_isNext_36
-- X4.readSign
def fX4_readSign (w : qMem)  (a1 : Int32) : Option (Int32 × qMem) :=
  qbd (fX4_isNext w (w 231 6) a1) fun (r2 : Int32) =>
  if r2 = 0 then
    some (0, w)
  else
    qnm (quw w 231 6 ((w 231 6) + 1)) fun (w4 : qMem) =>
    some (1, w4)
theorem qhd_X4_readSign : yX4_readSign.cls ≠ "java/lang/invoke/MethodHandle" ∧ yX4_readSign.cls ≠ "java/lang/invoke/VarHandle" ∧ (parseMethodDescriptor yX4_readSign.desc).map (fun d => d.parameters.length) = some 1 := ⟨by decide +kernel, by decide +kernel, by decide +kernel⟩
set_option maxHeartbeats 4000000 in
set_option maxRecDepth 100000 in
theorem mX4_readSign {l : Launch} {D : va_G} {G : Nat → ClassId} {ad : Nat → Nat} (hJ : qInj ad) {w : qMem}   {a1 : Int32} {rF : Int32} {wF : qMem} (hf : fX4_readSign w a1 = some (rF, wF)) : qCMi l D G ad yX4_readSign cX4_readSign 2 (some .boolean) 2 0 0 [.ref (ad 231), .int a1] w rF wF := by
  refine q_start RX4 rfl (by decide +kernel) hJ (fun a b h => by simp only [qQI, qQV, qQR, qQD, qQF, h]) (Nat.le_of_ble_eq_true rfl) ?_
  intro p e s m args below meth c0 ls hC hr hR hl
  have hx := hC.1
  have hb := hC.2.1
  have hl : lv_has ls 2 [(0, .ref (ad 231)), (1, .int a1)] := hl
  unfold fX4_readSign at hf
  refine lv_aload_n hx hb dX4_readSign_0 rfl (lv_at hl 0 rfl) ?_
  refine lv_aload_n hx hb dX4_readSign_1 rfl (lv_at hl 0 rfl) ?_
  refine qget_X4_6 hC hR qk_195 dX4_readSign_2 ?_
  refine lv_iload_n hx hb dX4_readSign_5 rfl (lv_at hl 1 rfl) ?_
  obtain ⟨r2, hq1, hf⟩ := qbd_s hf
  refine q_callVi hC hR (mX4_isNext (qJ hC) hq1) (by decide) (qsh_231 G ad _) rfl qk_1297 qk_1298 qk_1299 qk_23 qk_1300 qhd_X4_isNext ⟨Nat.le_of_ble_eq_true rfl, Nat.le_of_ble_eq_true rfl⟩ hl.1 rfl (Nat.le_of_ble_eq_true rfl) dX4_readSign_6 ⟨Nat.zero_le _, Nat.zero_le _⟩ (fun H locs hR => ?_)
  refine lv_if_ne (tgt := 14) hx hb dX4_readSign_9 (by decide) (fun c_3 => ?_) (fun c_3 => ?_)
  · have hf := qif_f hf c_3
    refine lv_aload_n hx hb dX4_readSign_14 rfl (lv_at hl 0 rfl) ?_
    refine lv_dup hx hb dX4_readSign_15 rfl ?_
    refine qget_X4_6 hC hR qk_195 dX4_readSign_16 ?_
    refine lv_iconst (v := 1) hx hb dX4_readSign_19 (by decide) ?_
    refine lv_iadd hx hb dX4_readSign_20 ?_
    refine qput_X4_6 hC hR qk_195 ⟨rfl, rfl⟩ dX4_readSign_21 (fun w4 H locs ew4 hR => ?_)
    have hf := qnm_t hf ew4
    refine lv_iconst (v := 1) hx hb dX4_readSign_24 (by decide) ?_
    exact q_iret hC hR hr (by decide) (qso2 hf).1 (qso2 hf).2 dX4_readSign_25
  · have hf := qif_t hf c_3
    refine lv_iconst (v := 0) hx hb dX4_readSign_12 (by decide) ?_
    exact q_iret hC hR hr (by decide) (qso2 hf).1 (qso2 hf).2 dX4_readSign_13
-- X4.readDigit
def fX4_readDigit (w : qMem)   : Option (Int32 × qMem) :=
  if w 231 6 < 0 then
    some ((-1), w)
  else
    if w 231 1 ≤ w 231 6 then
      some ((-1), w)
    else
      if w 231 6 < 60 then
        if qin (w 231 6) 60 = true then
        qnm (w 232 (w 231 6).toNatClampNeg) fun (x5 : Int32) =>
        if x5 < 48 then
          some ((-1), w)
        else
          if x5 ≤ 57 then
            qnm (quw w 231 6 ((w 231 6) + 1)) fun (w8 : qMem) =>
            some (x5 - 48, w8)
          else
            some ((-1), w)
        else none
      else
        some ((-1), w)
theorem qhd_X4_readDigit : yX4_readDigit.cls ≠ "java/lang/invoke/MethodHandle" ∧ yX4_readDigit.cls ≠ "java/lang/invoke/VarHandle" ∧ (parseMethodDescriptor yX4_readDigit.desc).map (fun d => d.parameters.length) = some 0 := ⟨by decide +kernel, by decide +kernel, by decide +kernel⟩
set_option maxHeartbeats 4000000 in
set_option maxRecDepth 100000 in
theorem mX4_readDigit {l : Launch} {D : va_G} {G : Nat → ClassId} {ad : Nat → Nat} (hJ : qInj ad) {w : qMem}    {rF : Int32} {wF : qMem} (hf : fX4_readDigit w = some (rF, wF)) : qCMi l D G ad yX4_readDigit cX4_readDigit 2 (some .int) 1 0 0 [.ref (ad 231)] w rF wF := by
  refine q_start RX4 rfl (by decide +kernel) hJ (fun a b h => by simp only [qQI, qQV, qQR, qQD, qQF, h]) (Nat.le_of_ble_eq_true rfl) ?_
  intro p e s m args below meth c0 ls hC hr hR hl
  have hx := hC.1
  have hb := hC.2.1
  have hl : lv_has ls 2 [(0, .ref (ad 231))] := hl
  unfold fX4_readDigit at hf
  refine lv_aload_n hx hb dX4_readDigit_0 rfl (lv_at hl 0 rfl) ?_
  refine qget_X4_6 hC hR qk_195 dX4_readDigit_1 ?_
  refine lv_if_lt (tgt := 30) hx hb dX4_readDigit_4 (by decide) (fun c_1 => ?_) (fun c_1 => ?_)
  · have hf := qif_t hf c_1
    refine lv_iconst (v := (-1)) hx hb dX4_readDigit_30 (by decide) ?_
    exact q_iret hC hR hr rfl (qso2 hf).1 (qso2 hf).2 dX4_readDigit_31
  · have hf := qif_f hf c_1
    refine lv_aload_n hx hb dX4_readDigit_7 rfl (lv_at hl 0 rfl) ?_
    refine qget_X4_6 hC hR qk_195 dX4_readDigit_8 ?_
    refine lv_aload_n hx hb dX4_readDigit_11 rfl (lv_at hl 0 rfl) ?_
    refine qget_X4_1 hC hR qk_188 dX4_readDigit_12 ?_
    refine lv_icmp_ge (tgt := 30) hx hb dX4_readDigit_15 (by decide) (fun c_2 => ?_) (fun c_2 => ?_)
    · have hf := qif_t hf c_2
      refine lv_iconst (v := (-1)) hx hb dX4_readDigit_30 (by decide) ?_
      exact q_iret hC hR hr rfl (qso2 hf).1 (qso2 hf).2 dX4_readDigit_31
    · have hf := qif_f hf c_2
      refine lv_aload_n hx hb dX4_readDigit_18 rfl (lv_at hl 0 rfl) ?_
      refine qget_X4_6 hC hR qk_195 dX4_readDigit_19 ?_
      refine lv_aload_n hx hb dX4_readDigit_22 rfl (lv_at hl 0 rfl) ?_
      refine qget_X4_0 hC hR qk_187 dX4_readDigit_23 ?_
      refine q_alen (v := 60) hC hR (by decide) (qsh_232 G ad _) rfl (by decide) dX4_readDigit_26 ?_
      refine lv_icmp_lt (tgt := 32) hx hb dX4_readDigit_27 (by decide) (fun c_3 => ?_) (fun c_3 => ?_)
      · have hf := qif_t hf c_3
        refine lv_aload_n hx hb dX4_readDigit_32 rfl (lv_at hl 0 rfl) ?_
        refine qget_X4_0 hC hR qk_187 dX4_readDigit_33 ?_
        refine lv_aload_n hx hb dX4_readDigit_36 rfl (lv_at hl 0 rfl) ?_
        refine qget_X4_6 hC hR qk_195 dX4_readDigit_37 ?_
        obtain ⟨g4, hf⟩ := qgd hf
        refine q_cld hC hR (j := (w 231 6).toNatClampNeg) (by decide) (qsh_232 G ad _) g4 rfl dX4_readDigit_40 ?_
        refine lv_topi (fun x5 ex5 => ?_)
        have hf := qnm_t hf ex5
        refine lv_istore_n (lv' := [(1, .int x5), (0, .ref (ad 231))]) hx hb dX4_readDigit_41 rfl hl (by decide) rfl (fun ls hl => ?_)
        refine lv_iload_n hx hb dX4_readDigit_42 rfl (lv_at hl 0 rfl) ?_
        refine lv_bipush (v := 48) hx hb dX4_readDigit_43 (by decide) ?_
        refine lv_icmp_lt (tgt := 54) hx hb dX4_readDigit_45 (by decide) (fun c_6 => ?_) (fun c_6 => ?_)
        · have hf := qif_t hf c_6
          refine lv_iconst (v := (-1)) hx hb dX4_readDigit_54 (by decide) ?_
          exact q_iret hC hR hr rfl (qso2 hf).1 (qso2 hf).2 dX4_readDigit_55
        · have hf := qif_f hf c_6
          refine lv_iload_n hx hb dX4_readDigit_48 rfl (lv_at hl 0 rfl) ?_
          refine lv_bipush (v := 57) hx hb dX4_readDigit_49 (by decide) ?_
          refine lv_icmp_le (tgt := 56) hx hb dX4_readDigit_51 (by decide) (fun c_7 => ?_) (fun c_7 => ?_)
          · have hf := qif_t hf c_7
            refine lv_aload_n hx hb dX4_readDigit_56 rfl (lv_at hl 1 rfl) ?_
            refine lv_dup hx hb dX4_readDigit_57 rfl ?_
            refine qget_X4_6 hC hR qk_195 dX4_readDigit_58 ?_
            refine lv_iconst (v := 1) hx hb dX4_readDigit_61 (by decide) ?_
            refine lv_iadd hx hb dX4_readDigit_62 ?_
            refine qput_X4_6 hC hR qk_195 ⟨rfl, rfl⟩ dX4_readDigit_63 (fun w8 H locs ew8 hR => ?_)
            have hf := qnm_t hf ew8
            refine lv_iload_n hx hb dX4_readDigit_66 rfl (lv_at hl 0 rfl) ?_
            refine lv_bipush (v := 48) hx hb dX4_readDigit_67 (by decide) ?_
            refine lv_isub hx hb dX4_readDigit_69 ?_
            exact q_iret hC hR hr rfl (qso2 hf).1 (qso2 hf).2 dX4_readDigit_70
          · have hf := qif_f hf c_7
            refine lv_iconst (v := (-1)) hx hb dX4_readDigit_54 (by decide) ?_
            exact q_iret hC hR hr rfl (qso2 hf).1 (qso2 hf).2 dX4_readDigit_55
      · have hf := qif_f hf c_3
        refine lv_iconst (v := (-1)) hx hb dX4_readDigit_30 (by decide) ?_
        exact q_iret hC hR hr rfl (qso2 hf).1 (qso2 hf).2 dX4_readDigit_31
-- X4.readNumber
def fX4_readNumber (w : qMem)  (a1 : Int32) : Option (Int32 × qMem) :=
  qbd2 (fX4_readSign w 32) fun (r2 : Int32) (w3 : qMem) =>
  if r2 = 0 then
    some ((-1), w3)
  else
    qbd2 (fX4_readDigit w3) fun (r6 : Int32) (w7 : qMem) =>
    if r6 < 0 then
      some (r6, w7)
    else
      if a1 ≤ 1 then
        some (r6, w7)
      else
        qbd2 (fX4_readDigit w7) fun (r11 : Int32) (w12 : qMem) =>
        if r11 < 0 then
          some (r6, w12)
        else
          some ((r6 * 10) + r11, w12)
theorem qhd_X4_readNumber : yX4_readNumber.cls ≠ "java/lang/invoke/MethodHandle" ∧ yX4_readNumber.cls ≠ "java/lang/invoke/VarHandle" ∧ (parseMethodDescriptor yX4_readNumber.desc).map (fun d => d.parameters.length) = some 1 := ⟨by decide +kernel, by decide +kernel, by decide +kernel⟩
set_option maxHeartbeats 4000000 in
set_option maxRecDepth 100000 in
theorem mX4_readNumber {l : Launch} {D : va_G} {G : Nat → ClassId} {ad : Nat → Nat} (hJ : qInj ad) {w : qMem}   {a1 : Int32} {rF : Int32} {wF : qMem} (hf : fX4_readNumber w a1 = some (rF, wF)) : qCMi l D G ad yX4_readNumber cX4_readNumber 4 (some .int) 3 0 0 [.ref (ad 231), .int a1] w rF wF := by
  refine q_start RX4 rfl (by decide +kernel) hJ (fun a b h => by simp only [qQI, qQV, qQR, qQD, qQF, h]) (Nat.le_of_ble_eq_true rfl) ?_
  intro p e s m args below meth c0 ls hC hr hR hl
  have hx := hC.1
  have hb := hC.2.1
  have hl : lv_has ls 4 [(0, .ref (ad 231)), (1, .int a1)] := hl
  unfold fX4_readNumber at hf
  refine lv_aload_n hx hb dX4_readNumber_0 rfl (lv_at hl 0 rfl) ?_
  refine lv_bipush (v := 32) hx hb dX4_readNumber_1 (by decide) ?_
  obtain ⟨r2, w3, hq1, hf⟩ := qbd2_s hf
  refine q_callVi hC hR (mX4_readSign (qJ hC) hq1) (by decide) (qsh_231 G ad _) rfl qk_1305 qk_1306 qk_1307 qk_23 qk_1308 qhd_X4_readSign ⟨Nat.le_of_ble_eq_true rfl, Nat.le_of_ble_eq_true rfl⟩ hl.1 rfl (Nat.le_of_ble_eq_true rfl) dX4_readNumber_3 ⟨Nat.zero_le _, Nat.zero_le _⟩ (fun H locs hR => ?_)
  refine lv_if_ne (tgt := 11) hx hb dX4_readNumber_6 (by decide) (fun c_4 => ?_) (fun c_4 => ?_)
  · have hf := qif_f hf c_4
    refine lv_aload_n hx hb dX4_readNumber_11 rfl (lv_at hl 0 rfl) ?_
    obtain ⟨r6, w7, hq5, hf⟩ := qbd2_s hf
    refine q_callVi hC hR (mX4_readDigit (qJ hC) hq5) (by decide) (qsh_231 G ad _) rfl qk_1309 qk_1310 qk_1311 qk_23 qk_1312 qhd_X4_readDigit ⟨Nat.le_of_ble_eq_true rfl, Nat.le_of_ble_eq_true rfl⟩ hl.1 rfl (Nat.le_of_ble_eq_true rfl) dX4_readNumber_12 ⟨Nat.zero_le _, Nat.zero_le _⟩ (fun H locs hR => ?_)
    refine lv_istore_n (lv' := [(2, .int r6), (0, .ref (ad 231)), (1, .int a1)]) hx hb dX4_readNumber_15 rfl hl (by decide) rfl (fun ls hl => ?_)
    refine lv_iload_n hx hb dX4_readNumber_16 rfl (lv_at hl 0 rfl) ?_
    refine lv_if_lt (tgt := 45) hx hb dX4_readNumber_17 (by decide) (fun c_8 => ?_) (fun c_8 => ?_)
    · have hf := qif_t hf c_8
      refine lv_iload_n hx hb dX4_readNumber_45 rfl (lv_at hl 0 rfl) ?_
      exact q_iret hC hR hr rfl (qso2 hf).1 (qso2 hf).2 dX4_readNumber_46
    · have hf := qif_f hf c_8
      refine lv_iload_n hx hb dX4_readNumber_20 rfl (lv_at hl 2 rfl) ?_
      refine lv_iconst (v := 1) hx hb dX4_readNumber_21 (by decide) ?_
      refine lv_icmp_le (tgt := 45) hx hb dX4_readNumber_22 (by decide) (fun c_9 => ?_) (fun c_9 => ?_)
      · have hf := qif_t hf c_9
        refine lv_iload_n hx hb dX4_readNumber_45 rfl (lv_at hl 0 rfl) ?_
        exact q_iret hC hR hr rfl (qso2 hf).1 (qso2 hf).2 dX4_readNumber_46
      · have hf := qif_f hf c_9
        refine lv_aload_n hx hb dX4_readNumber_25 rfl (lv_at hl 1 rfl) ?_
        obtain ⟨r11, w12, hq10, hf⟩ := qbd2_s hf
        refine q_callVi hC hR (mX4_readDigit (qJ hC) hq10) (by decide) (qsh_231 G ad _) rfl qk_1309 qk_1310 qk_1311 qk_23 qk_1312 qhd_X4_readDigit ⟨Nat.le_of_ble_eq_true rfl, Nat.le_of_ble_eq_true rfl⟩ hl.1 rfl (Nat.le_of_ble_eq_true rfl) dX4_readNumber_26 ⟨Nat.zero_le _, Nat.zero_le _⟩ (fun H locs hR => ?_)
        refine lv_istore_n (lv' := [(3, .int r11), (2, .int r6), (0, .ref (ad 231)), (1, .int a1)]) hx hb dX4_readNumber_29 rfl hl (by decide) rfl (fun ls hl => ?_)
        refine lv_iload_n hx hb dX4_readNumber_30 rfl (lv_at hl 0 rfl) ?_
        refine lv_if_lt (tgt := 43) hx hb dX4_readNumber_31 (by decide) (fun c_13 => ?_) (fun c_13 => ?_)
        · have hf := qif_t hf c_13
          refine lv_iload_n hx hb dX4_readNumber_43 rfl (lv_at hl 1 rfl) ?_
          exact q_iret hC hR hr rfl (qso2 hf).1 (qso2 hf).2 dX4_readNumber_44
        · have hf := qif_f hf c_13
          refine lv_iload_n hx hb dX4_readNumber_34 rfl (lv_at hl 1 rfl) ?_
          refine lv_bipush (v := 10) hx hb dX4_readNumber_35 (by decide) ?_
          refine lv_imul hx hb dX4_readNumber_37 ?_
          refine lv_iload_n hx hb dX4_readNumber_38 rfl (lv_at hl 0 rfl) ?_
          refine lv_iadd hx hb dX4_readNumber_39 ?_
          refine lv_goto (tgt := 44) hx hb dX4_readNumber_40 (by decide) ?_
          exact q_iret hC hR hr rfl (qso2 hf).1 (qso2 hf).2 dX4_readNumber_44
  · have hf := qif_t hf c_4
    refine lv_iconst (v := (-1)) hx hb dX4_readNumber_9 (by decide) ?_
    exact q_iret hC hR hr rfl (qso2 hf).1 (qso2 hf).2 dX4_readNumber_10
-- X4.wordAt
def fX4_wordAt (w : qMem)  (a1 : Int32) : Option (Int32) :=
  if a1 < 0 then
    some (0)
  else
    if (12 : Int32) ≤ a1 then
      some (0)
    else
      if qin a1 12 = true then
      some (w 233 (a1).toNatClampNeg)
      else none
theorem qhd_X4_wordAt : yX4_wordAt.cls ≠ "java/lang/invoke/MethodHandle" ∧ yX4_wordAt.cls ≠ "java/lang/invoke/VarHandle" ∧ (parseMethodDescriptor yX4_wordAt.desc).map (fun d => d.parameters.length) = some 1 := ⟨by decide +kernel, by decide +kernel, by decide +kernel⟩
set_option maxHeartbeats 4000000 in
set_option maxRecDepth 100000 in
theorem mX4_wordAt {l : Launch} {D : va_G} {G : Nat → ClassId} {ad : Nat → Nat} (hJ : qInj ad) {w : qMem}   {a1 : Int32} {rF : Int32} (hf : fX4_wordAt w a1 = some rF) : qCMi l D G ad yX4_wordAt cX4_wordAt 2 (some .int) 1 0 0 [.ref (ad 231), .int a1] w rF w := by
  refine q_start RX4 rfl (by decide +kernel) hJ (fun a b h => by simp only [qQI, qQV, qQR, qQD, qQF, h]) (Nat.le_of_ble_eq_true rfl) ?_
  intro p e s m args below meth c0 ls hC hr hR hl
  have hx := hC.1
  have hb := hC.2.1
  have hl : lv_has ls 2 [(0, .ref (ad 231)), (1, .int a1)] := hl
  unfold fX4_wordAt at hf
  refine lv_iload_n hx hb dX4_wordAt_0 rfl (lv_at hl 1 rfl) ?_
  refine lv_if_lt (tgt := 19) hx hb dX4_wordAt_1 (by decide) (fun c_1 => ?_) (fun c_1 => ?_)
  · have hf := qif_t hf c_1
    refine lv_iconst (v := 0) hx hb dX4_wordAt_19 (by decide) ?_
    exact q_iret hC hR hr rfl (qso hf) rfl dX4_wordAt_20
  · have hf := qif_f hf c_1
    refine lv_iload_n hx hb dX4_wordAt_4 rfl (lv_at hl 1 rfl) ?_
    refine lv_bipush (v := 12) hx hb dX4_wordAt_5 (by decide) ?_
    refine lv_icmp_ge (tgt := 19) hx hb dX4_wordAt_7 (by decide) (fun c_2 => ?_) (fun c_2 => ?_)
    · have hf := qif_t hf c_2
      refine lv_iconst (v := 0) hx hb dX4_wordAt_19 (by decide) ?_
      exact q_iret hC hR hr rfl (qso hf) rfl dX4_wordAt_20
    · have hf := qif_f hf c_2
      refine lv_aload_n hx hb dX4_wordAt_10 rfl (lv_at hl 0 rfl) ?_
      refine qget_X4_2 hC hR qk_190 dX4_wordAt_11 ?_
      refine lv_iload_n hx hb dX4_wordAt_14 rfl (lv_at hl 1 rfl) ?_
      obtain ⟨g3, hf⟩ := qgd hf
      refine q_ild hC hR (j := (a1).toNatClampNeg) (by decide) (qsh_233 G ad _) g3 rfl dX4_wordAt_15 ?_
      refine lv_goto (tgt := 20) hx hb dX4_wordAt_16 (by decide) ?_
      exact q_iret hC hR hr rfl (qso hf) rfl dX4_wordAt_20
-- X4.firstAt
def fX4_firstAt (w : qMem)  (a1 : Int32) : Option (Int32) :=
  if a1 < 0 then
    some (0)
  else
    if (12 : Int32) ≤ a1 then
      some (0)
    else
      if qin a1 12 = true then
      some (w 234 (a1).toNatClampNeg)
      else none
theorem qhd_X4_firstAt : yX4_firstAt.cls ≠ "java/lang/invoke/MethodHandle" ∧ yX4_firstAt.cls ≠ "java/lang/invoke/VarHandle" ∧ (parseMethodDescriptor yX4_firstAt.desc).map (fun d => d.parameters.length) = some 1 := ⟨by decide +kernel, by decide +kernel, by decide +kernel⟩
set_option maxHeartbeats 4000000 in
set_option maxRecDepth 100000 in
theorem mX4_firstAt {l : Launch} {D : va_G} {G : Nat → ClassId} {ad : Nat → Nat} (hJ : qInj ad) {w : qMem}   {a1 : Int32} {rF : Int32} (hf : fX4_firstAt w a1 = some rF) : qCMi l D G ad yX4_firstAt cX4_firstAt 2 (some .int) 1 0 0 [.ref (ad 231), .int a1] w rF w := by
  refine q_start RX4 rfl (by decide +kernel) hJ (fun a b h => by simp only [qQI, qQV, qQR, qQD, qQF, h]) (Nat.le_of_ble_eq_true rfl) ?_
  intro p e s m args below meth c0 ls hC hr hR hl
  have hx := hC.1
  have hb := hC.2.1
  have hl : lv_has ls 2 [(0, .ref (ad 231)), (1, .int a1)] := hl
  unfold fX4_firstAt at hf
  refine lv_iload_n hx hb dX4_firstAt_0 rfl (lv_at hl 1 rfl) ?_
  refine lv_if_lt (tgt := 19) hx hb dX4_firstAt_1 (by decide) (fun c_1 => ?_) (fun c_1 => ?_)
  · have hf := qif_t hf c_1
    refine lv_iconst (v := 0) hx hb dX4_firstAt_19 (by decide) ?_
    exact q_iret hC hR hr rfl (qso hf) rfl dX4_firstAt_20
  · have hf := qif_f hf c_1
    refine lv_iload_n hx hb dX4_firstAt_4 rfl (lv_at hl 1 rfl) ?_
    refine lv_bipush (v := 12) hx hb dX4_firstAt_5 (by decide) ?_
    refine lv_icmp_ge (tgt := 19) hx hb dX4_firstAt_7 (by decide) (fun c_2 => ?_) (fun c_2 => ?_)
    · have hf := qif_t hf c_2
      refine lv_iconst (v := 0) hx hb dX4_firstAt_19 (by decide) ?_
      exact q_iret hC hR hr rfl (qso hf) rfl dX4_firstAt_20
    · have hf := qif_f hf c_2
      refine lv_aload_n hx hb dX4_firstAt_10 rfl (lv_at hl 0 rfl) ?_
      refine qget_X4_3 hC hR qk_191 dX4_firstAt_11 ?_
      refine lv_iload_n hx hb dX4_firstAt_14 rfl (lv_at hl 1 rfl) ?_
      obtain ⟨g3, hf⟩ := qgd hf
      refine q_ild hC hR (j := (a1).toNatClampNeg) (by decide) (qsh_234 G ad _) g3 rfl dX4_firstAt_15 ?_
      refine lv_goto (tgt := 20) hx hb dX4_firstAt_16 (by decide) ?_
      exact q_iret hC hR hr rfl (qso hf) rfl dX4_firstAt_20
-- X4.secondAt
def fX4_secondAt (w : qMem)  (a1 : Int32) : Option (Int32) :=
  if a1 < 0 then
    some (0)
  else
    if (12 : Int32) ≤ a1 then
      some (0)
    else
      if qin a1 12 = true then
      some (w 235 (a1).toNatClampNeg)
      else none
theorem qhd_X4_secondAt : yX4_secondAt.cls ≠ "java/lang/invoke/MethodHandle" ∧ yX4_secondAt.cls ≠ "java/lang/invoke/VarHandle" ∧ (parseMethodDescriptor yX4_secondAt.desc).map (fun d => d.parameters.length) = some 1 := ⟨by decide +kernel, by decide +kernel, by decide +kernel⟩
set_option maxHeartbeats 4000000 in
set_option maxRecDepth 100000 in
theorem mX4_secondAt {l : Launch} {D : va_G} {G : Nat → ClassId} {ad : Nat → Nat} (hJ : qInj ad) {w : qMem}   {a1 : Int32} {rF : Int32} (hf : fX4_secondAt w a1 = some rF) : qCMi l D G ad yX4_secondAt cX4_secondAt 2 (some .int) 1 0 0 [.ref (ad 231), .int a1] w rF w := by
  refine q_start RX4 rfl (by decide +kernel) hJ (fun a b h => by simp only [qQI, qQV, qQR, qQD, qQF, h]) (Nat.le_of_ble_eq_true rfl) ?_
  intro p e s m args below meth c0 ls hC hr hR hl
  have hx := hC.1
  have hb := hC.2.1
  have hl : lv_has ls 2 [(0, .ref (ad 231)), (1, .int a1)] := hl
  unfold fX4_secondAt at hf
  refine lv_iload_n hx hb dX4_secondAt_0 rfl (lv_at hl 1 rfl) ?_
  refine lv_if_lt (tgt := 19) hx hb dX4_secondAt_1 (by decide) (fun c_1 => ?_) (fun c_1 => ?_)
  · have hf := qif_t hf c_1
    refine lv_iconst (v := 0) hx hb dX4_secondAt_19 (by decide) ?_
    exact q_iret hC hR hr rfl (qso hf) rfl dX4_secondAt_20
  · have hf := qif_f hf c_1
    refine lv_iload_n hx hb dX4_secondAt_4 rfl (lv_at hl 1 rfl) ?_
    refine lv_bipush (v := 12) hx hb dX4_secondAt_5 (by decide) ?_
    refine lv_icmp_ge (tgt := 19) hx hb dX4_secondAt_7 (by decide) (fun c_2 => ?_) (fun c_2 => ?_)
    · have hf := qif_t hf c_2
      refine lv_iconst (v := 0) hx hb dX4_secondAt_19 (by decide) ?_
      exact q_iret hC hR hr rfl (qso hf) rfl dX4_secondAt_20
    · have hf := qif_f hf c_2
      refine lv_aload_n hx hb dX4_secondAt_10 rfl (lv_at hl 0 rfl) ?_
      refine qget_X4_4 hC hR qk_192 dX4_secondAt_11 ?_
      refine lv_iload_n hx hb dX4_secondAt_14 rfl (lv_at hl 1 rfl) ?_
      obtain ⟨g3, hf⟩ := qgd hf
      refine q_ild hC hR (j := (a1).toNatClampNeg) (by decide) (qsh_235 G ad _) g3 rfl dX4_secondAt_15 ?_
      refine lv_goto (tgt := 20) hx hb dX4_secondAt_16 (by decide) ?_
      exact q_iret hC hR hr rfl (qso hf) rfl dX4_secondAt_20
