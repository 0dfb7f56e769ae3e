-- X6.thrown
def fX6_thrown (w : qMem)   : Option (Int32) :=
  some (w 238 7)
theorem qhd_X6_thrown : yX6_thrown.cls ≠ "java/lang/invoke/MethodHandle" ∧ yX6_thrown.cls ≠ "java/lang/invoke/VarHandle" ∧ (parseMethodDescriptor yX6_thrown.desc).map (fun d => d.parameters.length) = some 0 := ⟨by decide +kernel, by decide +kernel, by decide +kernel⟩
set_option maxHeartbeats 4000000 in
set_option maxRecDepth 100000 in
theorem mX6_thrown {l : Launch} {D : va_G} {G : Nat → ClassId} {ad : Nat → Nat} (hJ : qInj ad) {w : qMem}    {rF : Int32} (hf : fX6_thrown w = some rF) : qCMi l D G ad yX6_thrown cX6_thrown 1 (some .int) 1 0 0 [.ref (ad 238)] w rF w := by
  refine q_start RX6 rfl (by decide +kernel) hJ (fun a b h => by simp only [qQI, qQV, qQR, h]) (Nat.le_of_ble_eq_true rfl) ?_
  intro p e s m args below meth c0 ls hC hr hR hl
  have hx := hC.1
  have hb := hC.2.1
  have hl : lv_has ls 1 [(0, .ref (ad 238))] := hl
  unfold fX6_thrown at hf
  refine lv_aload_n hx hb dX6_thrown_0 rfl (lv_at hl 0 rfl) ?_
  refine qget_X6_7 hC hR qk_1132 dX6_thrown_1 ?_
  exact q_iret hC hR hr rfl (qso hf) rfl dX6_thrown_4
-- X6.in
def fX6_in (w : qMem)  (a1 : Int32) (a2 : Int32) (a3 : Int32) : Option (Int32) :=
  if a1 < a2 then
    some (0)
  else
    if a3 < a1 then
      some (0)
    else
      some (1)
theorem qhd_X6_in : yX6_in.cls ≠ "java/lang/invoke/MethodHandle" ∧ yX6_in.cls ≠ "java/lang/invoke/VarHandle" ∧ (parseMethodDescriptor yX6_in.desc).map (fun d => d.parameters.length) = some 3 := ⟨by decide +kernel, by decide +kernel, by decide +kernel⟩
set_option maxHeartbeats 4000000 in
set_option maxRecDepth 100000 in
theorem mX6_in {l : Launch} {D : va_G} {G : Nat → ClassId} {ad : Nat → Nat} (hJ : qInj ad) {w : qMem}   {a1 : Int32} {a2 : Int32} {a3 : Int32} {rF : Int32} (hf : fX6_in w a1 a2 a3 = some rF) : qCMi l D G ad yX6_in cX6_in 3 (some .boolean) 1 0 0 [.int a1, .int a2, .int a3] w rF w := by
  refine q_start RX6 rfl (by decide +kernel) hJ (fun a b h => by simp only [qQI, qQV, qQR, h]) (Nat.le_of_ble_eq_true rfl) ?_
  intro p e s m args below meth c0 ls hC hr hR hl
  have hx := hC.1
  have hb := hC.2.1
  have hl : lv_has ls 3 [(0, .int a1), (1, .int a2), (2, .int a3)] := hl
  unfold fX6_in at hf
  refine lv_iload_n hx hb dX6_in_0 rfl (lv_at hl 0 rfl) ?_
  refine lv_iload_n hx hb dX6_in_1 rfl (lv_at hl 1 rfl) ?_
  refine lv_icmp_lt (tgt := 14) hx hb dX6_in_2 (by decide) (fun c_1 => ?_) (fun c_1 => ?_)
  · have hf := qif_t hf c_1
    refine lv_iconst (v := 0) hx hb dX6_in_14 (by decide) ?_
    exact q_iret hC hR hr (by decide) (qso hf) rfl dX6_in_15
  · have hf := qif_f hf c_1
    refine lv_iload_n hx hb dX6_in_5 rfl (lv_at hl 0 rfl) ?_
    refine lv_iload_n hx hb dX6_in_6 rfl (lv_at hl 2 rfl) ?_
    refine lv_icmp_gt (tgt := 14) hx hb dX6_in_7 (by decide) (fun c_2 => ?_) (fun c_2 => ?_)
    · have hf := qif_t hf c_2
      refine lv_iconst (v := 0) hx hb dX6_in_14 (by decide) ?_
      exact q_iret hC hR hr (by decide) (qso hf) rfl dX6_in_15
    · have hf := qif_f hf c_2
      refine lv_iconst (v := 1) hx hb dX6_in_10 (by decide) ?_
      refine lv_goto (tgt := 15) hx hb dX6_in_11 (by decide) ?_
      exact q_iret hC hR hr (by decide) (qso hf) rfl dX6_in_15
-- X6.keep
def fX6_keep (w : qMem)   : Option (qMem) :=
  qnm (quw w 238 7 0) fun (w1 : qMem) =>
  if qcpy 0 0 99 99 99 = true then
  qnm (qur w1 240 (va_cpy (w1 239) (w1 240) (0 : Int32).toNatClampNeg (0 : Int32).toNatClampNeg (99 : Int32).toNatClampNeg)) fun (w3 : qMem) =>
  some w3
  else none
theorem qhd_X6_keep : yX6_keep.cls ≠ "java/lang/invoke/MethodHandle" ∧ yX6_keep.cls ≠ "java/lang/invoke/VarHandle" ∧ (parseMethodDescriptor yX6_keep.desc).map (fun d => d.parameters.length) = some 0 := ⟨by decide +kernel, by decide +kernel, by decide +kernel⟩
set_option maxHeartbeats 4000000 in
set_option maxRecDepth 100000 in
theorem mX6_keep {l : Launch} {D : va_G} {G : Nat → ClassId} {ad : Nat → Nat} (hJ : qInj ad) {w : qMem}    {wF : qMem} (hf : fX6_keep w = some wF) : qCMv l D G ad yX6_keep cX6_keep 1 (none) 2 0 0 [.ref (ad 238)] w wF := by
  refine q_start RX6 rfl (by decide +kernel) hJ (fun a b h => by simp only [qQI, qQV, qQR, h]) (Nat.le_of_ble_eq_true rfl) ?_
  intro p e s m args below meth c0 ls hC hr hR hl
  have hx := hC.1
  have hb := hC.2.1
  have hl : lv_has ls 1 [(0, .ref (ad 238))] := hl
  unfold fX6_keep at hf
  refine lv_aload_n hx hb dX6_keep_0 rfl (lv_at hl 0 rfl) ?_
  refine lv_iconst (v := 0) hx hb dX6_keep_1 (by decide) ?_
  refine qput_X6_7 hC hR qk_1132 ⟨rfl, rfl⟩ dX6_keep_2 (fun w1 H locs ew1 hR => ?_)
  have hf := qnm_t hf ew1
  refine lv_aload_n hx hb dX6_keep_5 rfl (lv_at hl 0 rfl) ?_
  refine qget_X6_0 hC hR qk_1125 dX6_keep_6 ?_
  refine lv_iconst (v := 0) hx hb dX6_keep_9 (by decide) ?_
  refine lv_aload_n hx hb dX6_keep_10 rfl (lv_at hl 0 rfl) ?_
  refine qget_X6_1 hC hR qk_1126 dX6_keep_11 ?_
  refine lv_iconst (v := 0) hx hb dX6_keep_14 (by decide) ?_
  refine lv_bipush (v := 99) hx hb dX6_keep_15 (by decide) ?_
  obtain ⟨g2, hf⟩ := qgd hf
  refine q_copy hC hR (by decide) (by decide) (fun f => qsh_239 G ad f) (fun f => qsh_240 G ad f) g2 hl.1 qk_1205 dX6_keep_17 (Nat.le_of_ble_eq_true rfl) (Nat.le_of_ble_eq_true rfl) (fun w3 H locs ew3 hR => ?_)
  have hf := qnm_t hf ew3
  exact q_vret hC hR hr (qso hf) dX6_keep_20
-- X6.ends
def fX6_ends_L60   (w : qMem) (x1 : Int32) : Option (Int32 × qMem) :=
  if qcpy 0 (99 * (w 238 6)) 99 99 792 = true then
  qnm (qur w 243 (va_cpy (w 240) (w 243) (0 : Int32).toNatClampNeg (99 * (w 238 6)).toNatClampNeg (99 : Int32).toNatClampNeg)) fun (w4 : qMem) =>
  qnm (quw w4 238 6 ((w4 238 6) + 1)) fun (w5 : qMem) =>
  some (x1, w5)
  else none
set_option maxHeartbeats 4000000 in
set_option maxRecDepth 100000 in
theorem mX6_ends_L60 {p : Program} {l : Launch} {e : Env} {s : State} {m : MethodId} {args : Array Value} {below : List Frame} {meth : Method} {c0 : Code} {D : va_G} {G : Nat → ClassId} {ad : Nat → Nat}   {rF : Int32} {wF : qMem}  (hC : qCx p c0 cX6_ends 2 s m args meth RX6 D G ad) (hr : meth.sig.returnType = some .int)  : ∀ (w : qMem) (x1 : Int32) (H : Heap) (locs : List Loc) (ls : Array Slot), fX6_ends_L60 w x1 = some (rF, wF) → qRp D G ad s w H locs → lv_has ls 2 [(0, .ref (ad 238)), (1, .int x1)] → W p l e (qrm 2 0 0) s m args below meth c0 H locs 0 0 (MQ below (qQI D G ad s wF rF) args s 0 0 (qAdr ad s.heap.size)) (F0 m 60 ls []) := by
  have hx := hC.1
  have hb := hC.2.1
  intro w x1 H locs ls hf hR hl
  unfold fX6_ends_L60 at hf
  refine lv_aload_n hx hb dX6_ends_60 rfl (lv_at hl 0 rfl) ?_
  refine qget_X6_1 hC hR qk_1126 dX6_ends_61 ?_
  refine lv_iconst (v := 0) hx hb dX6_ends_64 (by decide) ?_
  refine lv_aload_n hx hb dX6_ends_65 rfl (lv_at hl 0 rfl) ?_
  refine qget_X6_5 hC hR qk_1130 dX6_ends_66 ?_
  refine lv_bipush (v := 99) hx hb dX6_ends_69 (by decide) ?_
  refine lv_aload_n hx hb dX6_ends_71 rfl (lv_at hl 0 rfl) ?_
  refine qget_X6_6 hC hR qk_1131 dX6_ends_72 ?_
  refine lv_imul hx hb dX6_ends_75 ?_
  refine lv_bipush (v := 99) hx hb dX6_ends_76 (by decide) ?_
  obtain ⟨g3, hf⟩ := qgd hf
  refine q_copy hC hR (by decide) (by decide) (fun f => qsh_240 G ad f) (fun f => qsh_243 G ad f) g3 hl.1 qk_1205 dX6_ends_78 (Nat.le_of_ble_eq_true rfl) (Nat.le_of_ble_eq_true rfl) (fun w4 H locs ew4 hR => ?_)
  have hf := qnm_t hf ew4
  refine lv_aload_n hx hb dX6_ends_81 rfl (lv_at hl 0 rfl) ?_
  refine lv_dup hx hb dX6_ends_82 rfl ?_
  refine qget_X6_6 hC hR qk_1131 dX6_ends_83 ?_
  refine lv_iconst (v := 1) hx hb dX6_ends_86 (by decide) ?_
  refine lv_iadd hx hb dX6_ends_87 ?_
  refine qput_X6_6 hC hR qk_1131 ⟨rfl, rfl⟩ dX6_ends_88 (fun w5 H locs ew5 hR => ?_)
  have hf := qnm_t hf ew5
  refine lv_iload_n hx hb dX6_ends_91 rfl (lv_at hl 1 rfl) ?_
  exact q_iret hC hR hr rfl (qso2 hf).1 (qso2 hf).2 dX6_ends_92
def fX6_ends (w : qMem)  (a1 : Int32) : Option (Int32 × qMem) :=
  if w 238 7 ≤ 0 then
    if w 238 6 = 8 then
      if qcpy 99 0 693 792 792 = true then
      qnm (qur w 243 (va_cpy (w 243) (w 243) (99 : Int32).toNatClampNeg (0 : Int32).toNatClampNeg (693 : Int32).toNatClampNeg)) fun (w7 : qMem) =>
      qnm (quw w7 238 6 ((w7 238 6) - 1)) fun (w8 : qMem) =>
      fX6_ends_L60 w8 a1
      else none
    else
      fX6_ends_L60 w a1
  else
    if qcpy 0 0 99 99 99 = true then
    qnm (qur w 239 (va_cpy (w 240) (w 239) (0 : Int32).toNatClampNeg (0 : Int32).toNatClampNeg (99 : Int32).toNatClampNeg)) fun (w10 : qMem) =>
    some (0, w10)
    else none
theorem qhd_X6_ends : yX6_ends.cls ≠ "java/lang/invoke/MethodHandle" ∧ yX6_ends.cls ≠ "java/lang/invoke/VarHandle" ∧ (parseMethodDescriptor yX6_ends.desc).map (fun d => d.parameters.length) = some 1 := ⟨by decide +kernel, by decide +kernel, by decide +kernel⟩
set_option maxHeartbeats 4000000 in
set_option maxRecDepth 100000 in
theorem mX6_ends {l : Launch} {D : va_G} {G : Nat → ClassId} {ad : Nat → Nat} (hJ : qInj ad) {w : qMem}   {a1 : Int32} {rF : Int32} {wF : qMem} (hf : fX6_ends w a1 = some (rF, wF)) : qCMi l D G ad yX6_ends cX6_ends 2 (some .int) 2 0 0 [.ref (ad 238), .int a1] w rF wF := by
  refine q_start RX6 rfl (by decide +kernel) hJ (fun a b h => by simp only [qQI, qQV, qQR, h]) (Nat.le_of_ble_eq_true rfl) ?_
  intro p e s m args below meth c0 ls hC hr hR hl
  have hx := hC.1
  have hb := hC.2.1
  have hl : lv_has ls 2 [(0, .ref (ad 238)), (1, .int a1)] := hl
  unfold fX6_ends at hf
  refine lv_aload_n hx hb dX6_ends_0 rfl (lv_at hl 0 rfl) ?_
  refine qget_X6_7 hC hR qk_1132 dX6_ends_1 ?_
  refine lv_if_le (tgt := 24) hx hb dX6_ends_4 (by decide) (fun c_1 => ?_) (fun c_1 => ?_)
  · have hf := qif_t hf c_1
    refine lv_aload_n hx hb dX6_ends_24 rfl (lv_at hl 0 rfl) ?_
    refine qget_X6_6 hC hR qk_1131 dX6_ends_25 ?_
    refine lv_bipush (v := 8) hx hb dX6_ends_28 (by decide) ?_
    refine lv_icmp_ne (tgt := 60) hx hb dX6_ends_30 (by decide) (fun c_2 => ?_) (fun c_2 => ?_)
    · have hf := qif_f hf c_2
      exact mX6_ends_L60 hC hr _ _ _ _ _ hf hR (lv_sub hl [0, 1] rfl)
    · have hf := qif_t hf c_2
      refine lv_aload_n hx hb dX6_ends_33 rfl (lv_at hl 0 rfl) ?_
      refine qget_X6_5 hC hR qk_1130 dX6_ends_34 ?_
      refine lv_bipush (v := 99) hx hb dX6_ends_37 (by decide) ?_
      refine lv_aload_n hx hb dX6_ends_39 rfl (lv_at hl 0 rfl) ?_
      refine qget_X6_5 hC hR qk_1130 dX6_ends_40 ?_
      refine lv_iconst (v := 0) hx hb dX6_ends_43 (by decide) ?_
      refine lv_sipush (v := 693) hx hb dX6_ends_44 (by decide) ?_
      obtain ⟨g6, hf⟩ := qgd hf
      refine q_copy hC hR (by decide) (by decide) (fun f => qsh_243 G ad f) (fun f => qsh_243 G ad f) g6 hl.1 qk_1205 dX6_ends_47 (Nat.le_of_ble_eq_true rfl) (Nat.le_of_ble_eq_true rfl) (fun w7 H locs ew7 hR => ?_)
      have hf := qnm_t hf ew7
      refine lv_aload_n hx hb dX6_ends_50 rfl (lv_at hl 0 rfl) ?_
      refine lv_dup hx hb dX6_ends_51 rfl ?_
      refine qget_X6_6 hC hR qk_1131 dX6_ends_52 ?_
      refine lv_iconst (v := 1) hx hb dX6_ends_55 (by decide) ?_
      refine lv_isub hx hb dX6_ends_56 ?_
      refine qput_X6_6 hC hR qk_1131 ⟨rfl, rfl⟩ dX6_ends_57 (fun w8 H locs ew8 hR => ?_)
      have hf := qnm_t hf ew8
      exact mX6_ends_L60 hC hr _ _ _ _ _ hf hR (lv_sub hl [0, 1] rfl)
  · have hf := qif_f hf c_1
    refine lv_aload_n hx hb dX6_ends_7 rfl (lv_at hl 0 rfl) ?_
    refine qget_X6_1 hC hR qk_1126 dX6_ends_8 ?_
    refine lv_iconst (v := 0) hx hb dX6_ends_11 (by decide) ?_
    refine lv_aload_n hx hb dX6_ends_12 rfl (lv_at hl 0 rfl) ?_
    refine qget_X6_0 hC hR qk_1125 dX6_ends_13 ?_
    refine lv_iconst (v := 0) hx hb dX6_ends_16 (by decide) ?_
    refine lv_bipush (v := 99) hx hb dX6_ends_17 (by decide) ?_
    obtain ⟨g9, hf⟩ := qgd hf
    refine q_copy hC hR (by decide) (by decide) (fun f => qsh_240 G ad f) (fun f => qsh_239 G ad f) g9 hl.1 qk_1205 dX6_ends_19 (Nat.le_of_ble_eq_true rfl) (Nat.le_of_ble_eq_true rfl) (fun w10 H locs ew10 hR => ?_)
    have hf := qnm_t hf ew10
    refine lv_iconst (v := 0) hx hb dX6_ends_22 (by decide) ?_
    exact q_iret hC hR hr rfl (qso2 hf).1 (qso2 hf).2 dX6_ends_23
-- X6.fails
def fX6_fails (w : qMem)  (a1 : Int32) : Option (Int32 × qMem) :=
  qnm (quw w 238 7 a1) fun (w1 : qMem) =>
  some (0, w1)
theorem qhd_X6_fails : yX6_fails.cls ≠ "java/lang/invoke/MethodHandle" ∧ yX6_fails.cls ≠ "java/lang/invoke/VarHandle" ∧ (parseMethodDescriptor yX6_fails.desc).map (fun d => d.parameters.length) = some 1 := ⟨by decide +kernel, by decide +kernel, by decide +kernel⟩
set_option maxHeartbeats 4000000 in
set_option maxRecDepth 100000 in
theorem mX6_fails {l : Launch} {D : va_G} {G : Nat → ClassId} {ad : Nat → Nat} (hJ : qInj ad) {w : qMem}   {a1 : Int32} {rF : Int32} {wF : qMem} (hf : fX6_fails w a1 = some (rF, wF)) : qCMi l D G ad yX6_fails cX6_fails 2 (some .int) 1 0 0 [.ref (ad 238), .int a1] w rF wF := by
  refine q_start RX6 rfl (by decide +kernel) hJ (fun a b h => by simp only [qQI, qQV, qQR, h]) (Nat.le_of_ble_eq_true rfl) ?_
  intro p e s m args below meth c0 ls hC hr hR hl
  have hx := hC.1
  have hb := hC.2.1
  have hl : lv_has ls 2 [(0, .ref (ad 238)), (1, .int a1)] := hl
  unfold fX6_fails at hf
  refine lv_aload_n hx hb dX6_fails_0 rfl (lv_at hl 0 rfl) ?_
  refine lv_iload_n hx hb dX6_fails_1 rfl (lv_at hl 1 rfl) ?_
  refine qput_X6_7 hC hR qk_1132 ⟨rfl, rfl⟩ dX6_fails_2 (fun w1 H locs ew1 hR => ?_)
  have hf := qnm_t hf ew1
  refine lv_iconst (v := 0) hx hb dX6_fails_5 (by decide) ?_
  exact q_iret hC hR hr rfl (qso2 hf).1 (qso2 hf).2 dX6_fails_6
-- X6.refuse
def fX6_refuse (w : qMem)  (a1 : Int32) (a2 : Int32) (a3 : Int32) : Option (Int32 × qMem) :=
  qnm (quw w 238 7 a1) fun (w1 : qMem) =>
  qnm (quw w1 238 10 1) fun (w2 : qMem) =>
  qnm (quw w2 238 8 a2) fun (w3 : qMem) =>
  qnm (quw w3 238 9 a3) fun (w4 : qMem) =>
  some (0, w4)
theorem qhd_X6_refuse : yX6_refuse.cls ≠ "java/lang/invoke/MethodHandle" ∧ yX6_refuse.cls ≠ "java/lang/invoke/VarHandle" ∧ (parseMethodDescriptor yX6_refuse.desc).map (fun d => d.parameters.length) = some 3 := ⟨by decide +kernel, by decide +kernel, by decide +kernel⟩
set_option maxHeartbeats 4000000 in
set_option maxRecDepth 100000 in
theorem mX6_refuse {l : Launch} {D : va_G} {G : Nat → ClassId} {ad : Nat → Nat} (hJ : qInj ad) {w : qMem}   {a1 : Int32} {a2 : Int32} {a3 : Int32} {rF : Int32} {wF : qMem} (hf : fX6_refuse w a1 a2 a3 = some (rF, wF)) : qCMi l D G ad yX6_refuse cX6_refuse 4 (some .int) 1 0 0 [.ref (ad 238), .int a1, .int a2, .int a3] w rF wF := by
  refine q_start RX6 rfl (by decide +kernel) hJ (fun a b h => by simp only [qQI, qQV, qQR, h]) (Nat.le_of_ble_eq_true rfl) ?_
  intro p e s m args below meth c0 ls hC hr hR hl
  have hx := hC.1
  have hb := hC.2.1
  have hl : lv_has ls 4 [(0, .ref (ad 238)), (1, .int a1), (2, .int a2), (3, .int a3)] := hl
  unfold fX6_refuse at hf
  refine lv_aload_n hx hb dX6_refuse_0 rfl (lv_at hl 0 rfl) ?_
  refine lv_iload_n hx hb dX6_refuse_1 rfl (lv_at hl 1 rfl) ?_
  refine qput_X6_7 hC hR qk_1132 ⟨rfl, rfl⟩ dX6_refuse_2 (fun w1 H locs ew1 hR => ?_)
  have hf := qnm_t hf ew1
  refine lv_aload_n hx hb dX6_refuse_5 rfl (lv_at hl 0 rfl) ?_
  refine lv_iconst (v := 1) hx hb dX6_refuse_6 (by decide) ?_
  refine qput_X6_10 hC hR qk_1135 ⟨by decide, by decide⟩ dX6_refuse_7 (fun w2 H locs ew2 hR => ?_)
  have hf := qnm_t hf ew2
  refine lv_aload_n hx hb dX6_refuse_10 rfl (lv_at hl 0 rfl) ?_
  refine lv_iload_n hx hb dX6_refuse_11 rfl (lv_at hl 2 rfl) ?_
  refine qput_X6_8 hC hR qk_1133 ⟨rfl, rfl⟩ dX6_refuse_12 (fun w3 H locs ew3 hR => ?_)
  have hf := qnm_t hf ew3
  refine lv_aload_n hx hb dX6_refuse_15 rfl (lv_at hl 0 rfl) ?_
  refine lv_iload_n hx hb dX6_refuse_16 rfl (lv_at hl 3 rfl) ?_
  refine qput_X6_9 hC hR qk_1134 ⟨rfl, rfl⟩ dX6_refuse_17 (fun w4 H locs ew4 hR => ?_)
  have hf := qnm_t hf ew4
  refine lv_iconst (v := 0) hx hb dX6_refuse_20 (by decide) ?_
  exact q_iret hC hR hr rfl (qso2 hf).1 (qso2 hf).2 dX6_refuse_21
-- X6.refusal
def fX6_refusal_L13   (w : qMem) (x1 : Int32) (s0 : Int32) : Option (Int32 × qMem) :=
  qnm (quw w 238 7 s0) fun (w2 : qMem) =>
  if w2 238 7 ≤ 0 then
    if x1 = 0 then
      some (w2 238 8, w2)
    else
      some (w2 238 9, w2)
  else
    some (0, w2)
set_option maxHeartbeats 4000000 in
set_option maxRecDepth 100000 in
theorem mX6_refusal_L13 {p : Program} {l : Launch} {e : Env} {s : State} {m : MethodId} {args : Array Value} {below : List Frame} {meth : Method} {c0 : Code} {D : va_G} {G : Nat → ClassId} {ad : Nat → Nat}   {rF : Int32} {wF : qMem}  (hC : qCx p c0 cX6_refusal 2 s m args meth RX6 D G ad) (hr : meth.sig.returnType = some .int)  : ∀ (w : qMem) (x1 : Int32) (s0 : Int32) (H : Heap) (locs : List Loc) (ls : Array Slot), fX6_refusal_L13 w x1 s0 = some (rF, wF) → qRp D G ad s w H locs → lv_has ls 2 [(0, .ref (ad 238)), (1, .int x1)] → W p l e (qrm 1 0 0) s m args below meth c0 H locs 0 0 (MQ below (qQI D G ad s wF rF) args s 0 0 (qAdr ad s.heap.size)) (F0 m 13 ls [.int s0, .ref (ad 238)]) := by
  have hx := hC.1
  have hb := hC.2.1
  intro w x1 s0 H locs ls hf hR hl
  unfold fX6_refusal_L13 at hf
  refine qput_X6_7 hC hR qk_1132 ⟨rfl, rfl⟩ dX6_refusal_13 (fun w2 H locs ew2 hR => ?_)
  have hf := qnm_t hf ew2
  refine lv_aload_n hx hb dX6_refusal_16 rfl (lv_at hl 0 rfl) ?_
  refine qget_X6_7 hC hR qk_1132 dX6_refusal_17 ?_
  refine lv_if_le (tgt := 27) hx hb dX6_refusal_20 (by decide) (fun c_3 => ?_) (fun c_3 => ?_)
  · have hf := qif_t hf c_3
    refine lv_iload_n hx hb dX6_refusal_27 rfl (lv_at hl 1 rfl) ?_
    refine lv_if_eq (tgt := 38) hx hb dX6_refusal_28 (by decide) (fun c_4 => ?_) (fun c_4 => ?_)
    · have hf := qif_t hf c_4
      refine lv_aload_n hx hb dX6_refusal_38 rfl (lv_at hl 0 rfl) ?_
      refine qget_X6_8 hC hR qk_1133 dX6_refusal_39 ?_
      exact q_iret hC hR hr rfl (qso2 hf).1 (qso2 hf).2 dX6_refusal_42
    · have hf := qif_f hf c_4
      refine lv_aload_n hx hb dX6_refusal_31 rfl (lv_at hl 0 rfl) ?_
      refine qget_X6_9 hC hR qk_1134 dX6_refusal_32 ?_
      refine lv_goto (tgt := 42) hx hb dX6_refusal_35 (by decide) ?_
      exact q_iret hC hR hr rfl (qso2 hf).1 (qso2 hf).2 dX6_refusal_42
  · have hf := qif_f hf c_3
    refine lv_iconst (v := 0) hx hb dX6_refusal_23 (by decide) ?_
    refine lv_goto (tgt := 42) hx hb dX6_refusal_24 (by decide) ?_
    exact q_iret hC hR hr rfl (qso2 hf).1 (qso2 hf).2 dX6_refusal_42
def fX6_refusal (w : qMem)  (a1 : Int32) : Option (Int32 × qMem) :=
  if w 238 8 = 0 then
    fX6_refusal_L13 w a1 1
  else
    fX6_refusal_L13 w a1 0
theorem qhd_X6_refusal : yX6_refusal.cls ≠ "java/lang/invoke/MethodHandle" ∧ yX6_refusal.cls ≠ "java/lang/invoke/VarHandle" ∧ (parseMethodDescriptor yX6_refusal.desc).map (fun d => d.parameters.length) = some 1 := ⟨by decide +kernel, by decide +kernel, by decide +kernel⟩
set_option maxHeartbeats 4000000 in
set_option maxRecDepth 100000 in
theorem mX6_refusal {l : Launch} {D : va_G} {G : Nat → ClassId} {ad : Nat → Nat} (hJ : qInj ad) {w : qMem}   {a1 : Int32} {rF : Int32} {wF : qMem} (hf : fX6_refusal w a1 = some (rF, wF)) : qCMi l D G ad yX6_refusal cX6_refusal 2 (some .int) 1 0 0 [.ref (ad 238), .int a1] w rF wF := by
  refine q_start RX6 rfl (by decide +kernel) hJ (fun a b h => by simp only [qQI, qQV, qQR, h]) (Nat.le_of_ble_eq_true rfl) ?_
  intro p e s m args below meth c0 ls hC hr hR hl
  have hx := hC.1
  have hb := hC.2.1
  have hl : lv_has ls 2 [(0, .ref (ad 238)), (1, .int a1)] := hl
  unfold fX6_refusal at hf
  refine lv_aload_n hx hb dX6_refusal_0 rfl (lv_at hl 0 rfl) ?_
  refine lv_aload_n hx hb dX6_refusal_1 rfl (lv_at hl 0 rfl) ?_
  refine qget_X6_8 hC hR qk_1133 dX6_refusal_2 ?_
  refine lv_if_ne (tgt := 12) hx hb dX6_refusal_5 (by decide) (fun c_1 => ?_) (fun c_1 => ?_)
  · have hf := qif_f hf c_1
    refine lv_iconst (v := 0) hx hb dX6_refusal_12 (by decide) ?_
    exact mX6_refusal_L13 hC hr _ _ _ _ _ _ hf hR (lv_sub hl [0, 1] rfl)
  · have hf := qif_t hf c_1
    refine lv_iconst (v := 1) hx hb dX6_refusal_8 (by decide) ?_
    refine lv_goto (tgt := 13) hx hb dX6_refusal_9 (by decide) ?_
    exact mX6_refusal_L13 hC hr _ _ _ _ _ _ hf hR (lv_sub hl [0, 1] rfl)
-- X6.isProp
def fX6_isProp (w : qMem)  (a1 : Int32) : Option (Int32) :=
  qbd (fX6_in w a1 0 ((w 239 0) - 1)) fun (r2 : Int32) =>
  if qisB r2 = true then
  some (r2)
  else none
theorem qhd_X6_isProp : yX6_isProp.cls ≠ "java/lang/invoke/MethodHandle" ∧ yX6_isProp.cls ≠ "java/lang/invoke/VarHandle" ∧ (parseMethodDescriptor yX6_isProp.desc).map (fun d => d.parameters.length) = some 1 := ⟨by decide +kernel, by decide +kernel, by decide +kernel⟩
set_option maxHeartbeats 4000000 in
set_option maxRecDepth 100000 in
theorem mX6_isProp {l : Launch} {D : va_G} {G : Nat → ClassId} {ad : Nat → Nat} (hJ : qInj ad) {w : qMem}   {a1 : Int32} {rF : Int32} (hf : fX6_isProp w a1 = some rF) : qCMi l D G ad yX6_isProp cX6_isProp 2 (some .boolean) 2 0 0 [.ref (ad 238), .int a1] w rF w := by
  refine q_start RX6 rfl (by decide +kernel) hJ (fun a b h => by simp only [qQI, qQV, qQR, h]) (Nat.le_of_ble_eq_true rfl) ?_
  intro p e s m args below meth c0 ls hC hr hR hl
  have hx := hC.1
  have hb := hC.2.1
  have hl : lv_has ls 2 [(0, .ref (ad 238)), (1, .int a1)] := hl
  unfold fX6_isProp at hf
  refine lv_iload_n hx hb dX6_isProp_0 rfl (lv_at hl 1 rfl) ?_
  refine lv_iconst (v := 0) hx hb dX6_isProp_1 (by decide) ?_
  refine lv_aload_n hx hb dX6_isProp_2 rfl (lv_at hl 0 rfl) ?_
  refine qget_X6_0 hC hR qk_1125 dX6_isProp_3 ?_
  refine lv_iconst (v := 0) hx hb dX6_isProp_6 (by decide) ?_
  refine q_ild hC hR (j := 0) (by decide) (qsh_239 G ad _) (by decide) (by decide) dX6_isProp_7 ?_
  refine lv_iconst (v := 1) hx hb dX6_isProp_8 (by decide) ?_
  refine lv_isub hx hb dX6_isProp_9 ?_
  obtain ⟨r2, hq1, hf⟩ := qbd_s hf
  refine q_callSi hC hR (mX6_in (qJ hC) hq1) qk_1215 qk_1216 qk_64 qk_1217 qhd_X6_in ⟨Nat.le_of_ble_eq_true rfl, Nat.le_of_ble_eq_true rfl⟩ hl.1 rfl (Nat.le_of_ble_eq_true rfl) dX6_isProp_10 ⟨Nat.zero_le _, Nat.zero_le _⟩ (fun H locs hR => ?_)
  obtain ⟨g3, hf⟩ := qgd hf
  exact q_iret hC hR hr (qisB_ok g3).1 (qso hf) rfl dX6_isProp_13
-- X6.isFloor
def fX6_isFloor (w : qMem)  (a1 : Int32) : Option (Int32) :=
  qbd (fX6_in w a1 0 4) fun (r2 : Int32) =>
  if qisB r2 = true then
  some (r2)
  else none
theorem qhd_X6_isFloor : yX6_isFloor.cls ≠ "java/lang/invoke/MethodHandle" ∧ yX6_isFloor.cls ≠ "java/lang/invoke/VarHandle" ∧ (parseMethodDescriptor yX6_isFloor.desc).map (fun d => d.parameters.length) = some 1 := ⟨by decide +kernel, by decide +kernel, by decide +kernel⟩
set_option maxHeartbeats 4000000 in
set_option maxRecDepth 100000 in
theorem mX6_isFloor {l : Launch} {D : va_G} {G : Nat → ClassId} {ad : Nat → Nat} (hJ : qInj ad) {w : qMem}   {a1 : Int32} {rF : Int32} (hf : fX6_isFloor w a1 = some rF) : qCMi l D G ad yX6_isFloor cX6_isFloor 1 (some .boolean) 2 0 0 [.int a1] w rF w := by
  refine q_start RX6 rfl (by decide +kernel) hJ (fun a b h => by simp only [qQI, qQV, qQR, h]) (Nat.le_of_ble_eq_true rfl) ?_
  intro p e s m args below meth c0 ls hC hr hR hl
  have hx := hC.1
  have hb := hC.2.1
  have hl : lv_has ls 1 [(0, .int a1)] := hl
  unfold fX6_isFloor at hf
  refine lv_iload_n hx hb dX6_isFloor_0 rfl (lv_at hl 0 rfl) ?_
  refine lv_iconst (v := 0) hx hb dX6_isFloor_1 (by decide) ?_
  refine lv_iconst (v := 4) hx hb dX6_isFloor_2 (by decide) ?_
  obtain ⟨r2, hq1, hf⟩ := qbd_s hf
  refine q_callSi hC hR (mX6_in (qJ hC) hq1) qk_1215 qk_1216 qk_64 qk_1217 qhd_X6_in ⟨Nat.le_of_ble_eq_true rfl, Nat.le_of_ble_eq_true rfl⟩ hl.1 rfl (Nat.le_of_ble_eq_true rfl) dX6_isFloor_3 ⟨Nat.zero_le _, Nat.zero_le _⟩ (fun H locs hR => ?_)
  obtain ⟨g3, hf⟩ := qgd hf
  exact q_iret hC hR hr (qisB_ok g3).1 (qso hf) rfl dX6_isFloor_6
-- X6.isStrength
def fX6_isStrength (w : qMem)  (a1 : Int32) : Option (Int32) :=
  qbd (fX6_in w a1 1 9) fun (r2 : Int32) =>
  if qisB r2 = true then
  some (r2)
  else none
theorem qhd_X6_isStrength : yX6_isStrength.cls ≠ "java/lang/invoke/MethodHandle" ∧ yX6_isStrength.cls ≠ "java/lang/invoke/VarHandle" ∧ (parseMethodDescriptor yX6_isStrength.desc).map (fun d => d.parameters.length) = some 1 := ⟨by decide +kernel, by decide +kernel, by decide +kernel⟩
set_option maxHeartbeats 4000000 in
set_option maxRecDepth 100000 in
theorem mX6_isStrength {l : Launch} {D : va_G} {G : Nat → ClassId} {ad : Nat → Nat} (hJ : qInj ad) {w : qMem}   {a1 : Int32} {rF : Int32} (hf : fX6_isStrength w a1 = some rF) : qCMi l D G ad yX6_isStrength cX6_isStrength 1 (some .boolean) 2 0 0 [.int a1] w rF w := by
  refine q_start RX6 rfl (by decide +kernel) hJ (fun a b h => by simp only [qQI, qQV, qQR, h]) (Nat.le_of_ble_eq_true rfl) ?_
  intro p e s m args below meth c0 ls hC hr hR hl
  have hx := hC.1
  have hb := hC.2.1
  have hl : lv_has ls 1 [(0, .int a1)] := hl
  unfold fX6_isStrength at hf
  refine lv_iload_n hx hb dX6_isStrength_0 rfl (lv_at hl 0 rfl) ?_
  refine lv_iconst (v := 1) hx hb dX6_isStrength_1 (by decide) ?_
  refine lv_bipush (v := 9) hx hb dX6_isStrength_2 (by decide) ?_
  obtain ⟨r2, hq1, hf⟩ := qbd_s hf
  refine q_callSi hC hR (mX6_in (qJ hC) hq1) qk_1215 qk_1216 qk_64 qk_1217 qhd_X6_in ⟨Nat.le_of_ble_eq_true rfl, Nat.le_of_ble_eq_true rfl⟩ hl.1 rfl (Nat.le_of_ble_eq_true rfl) dX6_isStrength_4 ⟨Nat.zero_le _, Nat.zero_le _⟩ (fun H locs hR => ?_)
  obtain ⟨g3, hf⟩ := qgd hf
  exact q_iret hC hR hr (qisB_ok g3).1 (qso hf) rfl dX6_isStrength_7
-- X6.of
def fX6_of (w : qMem)  (a1 : Int32) (a2 : Int32) : Option (Int32) :=
  if qin ((15 + (7 * a1)) + a2) 99 = true then
  some (w 239 ((15 + (7 * a1)) + a2).toNatClampNeg)
  else none
theorem qhd_X6_of : yX6_of.cls ≠ "java/lang/invoke/MethodHandle" ∧ yX6_of.cls ≠ "java/lang/invoke/VarHandle" ∧ (parseMethodDescriptor yX6_of.desc).map (fun d => d.parameters.length) = some 2 := ⟨by decide +kernel, by decide +kernel, by decide +kernel⟩
set_option maxHeartbeats 4000000 in
set_option maxRecDepth 100000 in
theorem mX6_of {l : Launch} {D : va_G} {G : Nat → ClassId} {ad : Nat → Nat} (hJ : qInj ad) {w : qMem}   {a1 : Int32} {a2 : Int32} {rF : Int32} (hf : fX6_of w a1 a2 = some rF) : qCMi l D G ad yX6_of cX6_of 3 (some .int) 1 0 0 [.ref (ad 238), .int a1, .int a2] w rF w := by
  refine q_start RX6 rfl (by decide +kernel) hJ (fun a b h => by simp only [qQI, qQV, qQR, h]) (Nat.le_of_ble_eq_true rfl) ?_
  intro p e s m args below meth c0 ls hC hr hR hl
  have hx := hC.1
  have hb := hC.2.1
  have hl : lv_has ls 3 [(0, .ref (ad 238)), (1, .int a1), (2, .int a2)] := hl
  unfold fX6_of at hf
  refine lv_aload_n hx hb dX6_of_0 rfl (lv_at hl 0 rfl) ?_
  refine qget_X6_0 hC hR qk_1125 dX6_of_1 ?_
  refine lv_bipush (v := 15) hx hb dX6_of_4 (by decide) ?_
  refine lv_bipush (v := 7) hx hb dX6_of_6 (by decide) ?_
  refine lv_iload_n hx hb dX6_of_8 rfl (lv_at hl 1 rfl) ?_
  refine lv_imul hx hb dX6_of_9 ?_
  refine lv_iadd hx hb dX6_of_10 ?_
  refine lv_iload_n hx hb dX6_of_11 rfl (lv_at hl 2 rfl) ?_
  refine lv_iadd hx hb dX6_of_12 ?_
  obtain ⟨g1, hf⟩ := qgd hf
  refine q_ild hC hR (j := ((15 + (7 * a1)) + a2).toNatClampNeg) (by decide) (qsh_239 G ad _) g1 rfl dX6_of_13 ?_
  exact q_iret hC hR hr rfl (qso hf) rfl dX6_of_14
-- X6.sets
def fX6_sets (w : qMem)  (a1 : Int32) (a2 : Int32) (a3 : Int32) : Option (qMem) :=
  if qin ((15 + (7 * a1)) + a2) 99 = true then
  qnm (quw w 239 ((15 + (7 * a1)) + a2).toNatClampNeg a3) fun (w2 : qMem) =>
  some w2
  else none
theorem qhd_X6_sets : yX6_sets.cls ≠ "java/lang/invoke/MethodHandle" ∧ yX6_sets.cls ≠ "java/lang/invoke/VarHandle" ∧ (parseMethodDescriptor yX6_sets.desc).map (fun d => d.parameters.length) = some 3 := ⟨by decide +kernel, by decide +kernel, by decide +kernel⟩
set_option maxHeartbeats 4000000 in
set_option maxRecDepth 100000 in
theorem mX6_sets {l : Launch} {D : va_G} {G : Nat → ClassId} {ad : Nat → Nat} (hJ : qInj ad) {w : qMem}   {a1 : Int32} {a2 : Int32} {a3 : Int32} {wF : qMem} (hf : fX6_sets w a1 a2 a3 = some wF) : qCMv l D G ad yX6_sets cX6_sets 4 (none) 1 0 0 [.ref (ad 238), .int a1, .int a2, .int a3] w wF := by
  refine q_start RX6 rfl (by decide +kernel) hJ (fun a b h => by simp only [qQI, qQV, qQR, h]) (Nat.le_of_ble_eq_true rfl) ?_
  intro p e s m args below meth c0 ls hC hr hR hl
  have hx := hC.1
  have hb := hC.2.1
  have hl : lv_has ls 4 [(0, .ref (ad 238)), (1, .int a1), (2, .int a2), (3, .int a3)] := hl
  unfold fX6_sets at hf
  refine lv_aload_n hx hb dX6_sets_0 rfl (lv_at hl 0 rfl) ?_
  refine qget_X6_0 hC hR qk_1125 dX6_sets_1 ?_
  refine lv_bipush (v := 15) hx hb dX6_sets_4 (by decide) ?_
  refine lv_bipush (v := 7) hx hb dX6_sets_6 (by decide) ?_
  refine lv_iload_n hx hb dX6_sets_8 rfl (lv_at hl 1 rfl) ?_
  refine lv_imul hx hb dX6_sets_9 ?_
  refine lv_iadd hx hb dX6_sets_10 ?_
  refine lv_iload_n hx hb dX6_sets_11 rfl (lv_at hl 2 rfl) ?_
  refine lv_iadd hx hb dX6_sets_12 ?_
  refine lv_iload_n hx hb dX6_sets_13 rfl (lv_at hl 3 rfl) ?_
  obtain ⟨g1, hf⟩ := qgd hf
  refine q_ist hC hR (j := ((15 + (7 * a1)) + a2).toNatClampNeg) (by decide) (fun f => qsh_239 G ad f) g1 rfl dX6_sets_14 (fun w2 H locs ew2 hR => ?_)
  have hf := qnm_t hf ew2
  exact q_vret hC hR hr (qso hf) dX6_sets_15
-- X6.there
def fX6_there_L5 (w : qMem)   : Nat → Int32 → Int32 → Int32 → Int32 → Option (Int32)
  | 0, _, _, _, _ => none
  | n + 1, x1, x2, x3, x4 =>
    if w 239 0 ≤ x4 then
      some (x3)
    else
      qbd (fX6_of w x4 0) fun (r3 : Int32) =>
      if r3 = x1 then
        qbd (fX6_of w x4 1) fun (r8 : Int32) =>
        if r8 = x2 then
          qnm (x3 + 1) fun (x12 : Int32) =>
          qnm (x4 + 1) fun (x13 : Int32) =>
          fX6_there_L5 w n x1 x2 x12 x13
        else
          qnm (x3 + 0) fun (x10 : Int32) =>
          qnm (x4 + 1) fun (x11 : Int32) =>
          fX6_there_L5 w n x1 x2 x10 x11
      else
        qnm (x3 + 0) fun (x5 : Int32) =>
        qnm (x4 + 1) fun (x6 : Int32) =>
        fX6_there_L5 w n x1 x2 x5 x6
set_option maxHeartbeats 4000000 in
set_option maxRecDepth 100000 in
theorem mX6_there_L5 {p : Program} {l : Launch} {e : Env} {s : State} {m : MethodId} {args : Array Value} {below : List Frame} {meth : Method} {c0 : Code} {D : va_G} {G : Nat → ClassId} {ad : Nat → Nat} {w : qMem}   {rF : Int32}  (hC : qCx p c0 cX6_there 5 s m args meth RX6 D G ad) (hr : meth.sig.returnType = some .int)  : ∀ (n : Nat), ∀ (x1 : Int32) (x2 : Int32) (x3 : Int32) (x4 : Int32) (H : Heap) (locs : List Loc) (ls : Array Slot), fX6_there_L5 w n x1 x2 x3 x4 = some rF → qRp D G ad s w H locs → lv_has ls 5 [(0, .ref (ad 238)), (1, .int x1), (2, .int x2), (3, .int x3), (4, .int x4)] → W p l e (qrm 2 0 0) s m args below meth c0 H locs 0 0 (MQ below (qQI D G ad s w rF) args s 0 0 (qAdr ad s.heap.size)) (F0 m 5 ls []) := by
  have hx := hC.1
  have hb := hC.2.1
  intro n
  induction n with
  | zero => intro x1 x2 x3 x4 H locs ls hf; exact nomatch (show (none : Option (Int32)) = some _ from hf)
  | succ n ih =>
    intro x1 x2 x3 x4 H locs ls hf hR hl
    rw [fX6_there_L5] at hf
    refine lv_iload hx hb dX6_there_5 (lv_at hl 4 rfl) ?_
    refine lv_aload_n hx hb dX6_there_7 rfl (lv_at hl 0 rfl) ?_
    refine qget_X6_0 hC hR qk_1125 dX6_there_8 ?_
    refine lv_iconst (v := 0) hx hb dX6_there_11 (by decide) ?_
    refine q_ild hC hR (j := 0) (by decide) (qsh_239 G ad _) (by decide) (by decide) dX6_there_12 ?_
    refine lv_icmp_ge (tgt := 52) hx hb dX6_there_13 (by decide) (fun c_1 => ?_) (fun c_1 => ?_)
    · have hf := qif_t hf c_1
      refine lv_iload_n hx hb dX6_there_52 rfl (lv_at hl 3 rfl) ?_
      exact q_iret hC hR hr rfl (qso hf) rfl dX6_there_53
    · have hf := qif_f hf c_1
      refine lv_iload_n hx hb dX6_there_16 rfl (lv_at hl 3 rfl) ?_
      refine lv_aload_n hx hb dX6_there_17 rfl (lv_at hl 0 rfl) ?_
      refine lv_iload hx hb dX6_there_18 (lv_at hl 4 rfl) ?_
      refine lv_iconst (v := 0) hx hb dX6_there_20 (by decide) ?_
      obtain ⟨r3, hq2, hf⟩ := qbd_s hf
      refine q_callVi hC hR (mX6_of (qJ hC) hq2) (by decide) (qsh_238 G ad _) rfl qk_1230 qk_1232 qk_23 qk_64 qk_1233 qhd_X6_of ⟨Nat.le_of_ble_eq_true rfl, Nat.le_of_ble_eq_true rfl⟩ hl.1 rfl (Nat.le_of_ble_eq_true rfl) dX6_there_21 ⟨Nat.zero_le _, Nat.zero_le _⟩ (fun H locs hR => ?_)
      refine lv_iload_n hx hb dX6_there_24 rfl (lv_at hl 1 rfl) ?_
      refine lv_icmp_ne (tgt := 43) hx hb dX6_there_25 (by decide) (fun c_4 => ?_) (fun c_4 => ?_)
      · have hf := qif_f hf c_4
        refine lv_iconst (v := 0) hx hb dX6_there_43 (by decide) ?_
        refine lv_iadd hx hb dX6_there_44 ?_
        refine lv_topi (fun x5 ex5 => ?_)
        have hf := qnm_t hf ex5
        refine lv_istore_n (lv' := [(3, .int x5), (0, .ref (ad 238)), (1, .int x1), (2, .int x2), (4, .int x4)]) hx hb dX6_there_45 rfl hl (by decide) rfl (fun ls hl => ?_)
        obtain ⟨x6, ex6⟩ : ∃ y : Int32, y = x4 + 1 := ⟨_, rfl⟩
        have hf := qnm_t hf ex6
        refine lv_iinc (v := x6) (lv' := [(4, .int x6), (3, .int x5), (0, .ref (ad 238)), (1, .int x1), (2, .int x2)]) hx hb dX6_there_46 hl (k := 4) rfl (by rw [ex6]; rfl) (by decide) rfl (fun ls hl => ?_)
        refine lv_goto (tgt := 5) hx hb dX6_there_49 (by decide) ?_
        exact ih _ _ _ _ _ _ _ hf hR (lv_sub hl [2, 3, 4, 1, 0] rfl)
      · have hf := qif_t hf c_4
        refine lv_aload_n hx hb dX6_there_28 rfl (lv_at hl 0 rfl) ?_
        refine lv_iload hx hb dX6_there_29 (lv_at hl 4 rfl) ?_
        refine lv_iconst (v := 1) hx hb dX6_there_31 (by decide) ?_
        obtain ⟨r8, hq7, hf⟩ := qbd_s hf
        refine q_callVi hC hR (mX6_of (qJ hC) hq7) (by decide) (qsh_238 G ad _) rfl qk_1230 qk_1232 qk_23 qk_64 qk_1233 qhd_X6_of ⟨Nat.le_of_ble_eq_true rfl, Nat.le_of_ble_eq_true rfl⟩ hl.1 rfl (Nat.le_of_ble_eq_true rfl) dX6_there_32 ⟨Nat.zero_le _, Nat.zero_le _⟩ (fun H locs hR => ?_)
        refine lv_iload_n hx hb dX6_there_35 rfl (lv_at hl 2 rfl) ?_
        refine lv_icmp_ne (tgt := 43) hx hb dX6_there_36 (by decide) (fun c_9 => ?_) (fun c_9 => ?_)
        · have hf := qif_f hf c_9
          refine lv_iconst (v := 0) hx hb dX6_there_43 (by decide) ?_
          refine lv_iadd hx hb dX6_there_44 ?_
          refine lv_topi (fun x10 ex10 => ?_)
          have hf := qnm_t hf ex10
          refine lv_istore_n (lv' := [(3, .int x10), (0, .ref (ad 238)), (1, .int x1), (2, .int x2), (4, .int x4)]) hx hb dX6_there_45 rfl hl (by decide) rfl (fun ls hl => ?_)
          obtain ⟨x11, ex11⟩ : ∃ y : Int32, y = x4 + 1 := ⟨_, rfl⟩
          have hf := qnm_t hf ex11
          refine lv_iinc (v := x11) (lv' := [(4, .int x11), (3, .int x10), (0, .ref (ad 238)), (1, .int x1), (2, .int x2)]) hx hb dX6_there_46 hl (k := 4) rfl (by rw [ex11]; rfl) (by decide) rfl (fun ls hl => ?_)
          refine lv_goto (tgt := 5) hx hb dX6_there_49 (by decide) ?_
          exact ih _ _ _ _ _ _ _ hf hR (lv_sub hl [2, 3, 4, 1, 0] rfl)
        · have hf := qif_t hf c_9
          refine lv_iconst (v := 1) hx hb dX6_there_39 (by decide) ?_
          refine lv_goto (tgt := 44) hx hb dX6_there_40 (by decide) ?_
          refine lv_iadd hx hb dX6_there_44 ?_
          refine lv_topi (fun x12 ex12 => ?_)
          have hf := qnm_t hf ex12
          refine lv_istore_n (lv' := [(3, .int x12), (0, .ref (ad 238)), (1, .int x1), (2, .int x2), (4, .int x4)]) hx hb dX6_there_45 rfl hl (by decide) rfl (fun ls hl => ?_)
          obtain ⟨x13, ex13⟩ : ∃ y : Int32, y = x4 + 1 := ⟨_, rfl⟩
          have hf := qnm_t hf ex13
          refine lv_iinc (v := x13) (lv' := [(4, .int x13), (3, .int x12), (0, .ref (ad 238)), (1, .int x1), (2, .int x2)]) hx hb dX6_there_46 hl (k := 4) rfl (by rw [ex13]; rfl) (by decide) rfl (fun ls hl => ?_)
          refine lv_goto (tgt := 5) hx hb dX6_there_49 (by decide) ?_
          exact ih _ _ _ _ _ _ _ hf hR (lv_sub hl [2, 3, 4, 1, 0] rfl)
def fX6_there (w : qMem)  (a1 : Int32) (a2 : Int32) : Option (Int32) :=
  fX6_there_L5 w 100 a1 a2 0 0
theorem qhd_X6_there : yX6_there.cls ≠ "java/lang/invoke/MethodHandle" ∧ yX6_there.cls ≠ "java/lang/invoke/VarHandle" ∧ (parseMethodDescriptor yX6_there.desc).map (fun d => d.parameters.length) = some 2 := ⟨by decide +kernel, by decide +kernel, by decide +kernel⟩
set_option maxHeartbeats 4000000 in
set_option maxRecDepth 100000 in
theorem mX6_there {l : Launch} {D : va_G} {G : Nat → ClassId} {ad : Nat → Nat} (hJ : qInj ad) {w : qMem}   {a1 : Int32} {a2 : Int32} {rF : Int32} (hf : fX6_there w a1 a2 = some rF) : qCMi l D G ad yX6_there cX6_there 5 (some .int) 2 0 0 [.ref (ad 238), .int a1, .int a2] w rF w := by
  refine q_start RX6 rfl (by decide +kernel) hJ (fun a b h => by simp only [qQI, qQV, qQR, h]) (Nat.le_of_ble_eq_true rfl) ?_
  intro p e s m args below meth c0 ls hC hr hR hl
  have hx := hC.1
  have hb := hC.2.1
  have hl : lv_has ls 5 [(0, .ref (ad 238)), (1, .int a1), (2, .int a2)] := hl
  unfold fX6_there at hf
  refine lv_iconst (v := 0) hx hb dX6_there_0 (by decide) ?_
  refine lv_istore_n (lv' := [(3, .int 0), (0, .ref (ad 238)), (1, .int a1), (2, .int a2)]) hx hb dX6_there_1 rfl hl (by decide) rfl (fun ls hl => ?_)
  refine lv_iconst (v := 0) hx hb dX6_there_2 (by decide) ?_
  refine lv_istore (lv' := [(4, .int 0), (3, .int 0), (0, .ref (ad 238)), (1, .int a1), (2, .int a2)]) hx hb dX6_there_3 hl (by decide) rfl (fun ls hl => ?_)
  exact mX6_there_L5 hC hr 100 _ _ _ _ _ _ _ hf hR (lv_sub hl [2, 3, 4, 1, 0] rfl)
-- X6.kindMany
def fX6_kindMany_L4 (w : qMem)   : Nat → Int32 → Int32 → Int32 → Option (Int32)
  | 0, _, _, _ => none
  | n + 1, x1, x2, x3 =>
    if w 239 0 ≤ x3 then
      some (x2)
    else
      qbd (fX6_of w x3 0) fun (r3 : Int32) =>
      if r3 = x1 then
        qnm (x2 + 1) fun (x7 : Int32) =>
        qnm (x3 + 1) fun (x8 : Int32) =>
        fX6_kindMany_L4 w n x1 x7 x8
      else
        qnm (x2 + 0) fun (x5 : Int32) =>
        qnm (x3 + 1) fun (x6 : Int32) =>
        fX6_kindMany_L4 w n x1 x5 x6
set_option maxHeartbeats 4000000 in
set_option maxRecDepth 100000 in
theorem mX6_kindMany_L4 {p : Program} {l : Launch} {e : Env} {s : State} {m : MethodId} {args : Array Value} {below : List Frame} {meth : Method} {c0 : Code} {D : va_G} {G : Nat → ClassId} {ad : Nat → Nat} {w : qMem}   {rF : Int32}  (hC : qCx p c0 cX6_kindMany 4 s m args meth RX6 D G ad) (hr : meth.sig.returnType = some .int)  : ∀ (n : Nat), ∀ (x1 : Int32) (x2 : Int32) (x3 : Int32) (H : Heap) (locs : List Loc) (ls : Array Slot), fX6_kindMany_L4 w n x1 x2 x3 = some rF → qRp D G ad s w H locs → lv_has ls 4 [(0, .ref (ad 238)), (1, .int x1), (2, .int x2), (3, .int x3)] → W p l e (qrm 2 0 0) s m args below meth c0 H locs 0 0 (MQ below (qQI D G ad s w rF) args s 0 0 (qAdr ad s.heap.size)) (F0 m 4 ls []) := by
  have hx := hC.1
  have hb := hC.2.1
  intro n
  induction n with
  | zero => intro x1 x2 x3 H locs ls hf; exact nomatch (show (none : Option (Int32)) = some _ from hf)
  | succ n ih =>
    intro x1 x2 x3 H locs ls hf hR hl
    rw [fX6_kindMany_L4] at hf
    refine lv_iload_n hx hb dX6_kindMany_4 rfl (lv_at hl 3 rfl) ?_
    refine lv_aload_n hx hb dX6_kindMany_5 rfl (lv_at hl 0 rfl) ?_
    refine qget_X6_0 hC hR qk_1125 dX6_kindMany_6 ?_
    refine lv_iconst (v := 0) hx hb dX6_kindMany_9 (by decide) ?_
    refine q_ild hC hR (j := 0) (by decide) (qsh_239 G ad _) (by decide) (by decide) dX6_kindMany_10 ?_
    refine lv_icmp_ge (tgt := 38) hx hb dX6_kindMany_11 (by decide) (fun c_1 => ?_) (fun c_1 => ?_)
    · have hf := qif_t hf c_1
      refine lv_iload_n hx hb dX6_kindMany_38 rfl (lv_at hl 2 rfl) ?_
      exact q_iret hC hR hr rfl (qso hf) rfl dX6_kindMany_39
    · have hf := qif_f hf c_1
      refine lv_iload_n hx hb dX6_kindMany_14 rfl (lv_at hl 2 rfl) ?_
      refine lv_aload_n hx hb dX6_kindMany_15 rfl (lv_at hl 0 rfl) ?_
      refine lv_iload_n hx hb dX6_kindMany_16 rfl (lv_at hl 3 rfl) ?_
      refine lv_iconst (v := 0) hx hb dX6_kindMany_17 (by decide) ?_
      obtain ⟨r3, hq2, hf⟩ := qbd_s hf
      refine q_callVi hC hR (mX6_of (qJ hC) hq2) (by decide) (qsh_238 G ad _) rfl qk_1230 qk_1232 qk_23 qk_64 qk_1233 qhd_X6_of ⟨Nat.le_of_ble_eq_true rfl, Nat.le_of_ble_eq_true rfl⟩ hl.1 rfl (Nat.le_of_ble_eq_true rfl) dX6_kindMany_18 ⟨Nat.zero_le _, Nat.zero_le _⟩ (fun H locs hR => ?_)
      refine lv_iload_n hx hb dX6_kindMany_21 rfl (lv_at hl 1 rfl) ?_
      refine lv_icmp_ne (tgt := 29) hx hb dX6_kindMany_22 (by decide) (fun c_4 => ?_) (fun c_4 => ?_)
      · have hf := qif_f hf c_4
        refine lv_iconst (v := 0) hx hb dX6_kindMany_29 (by decide) ?_
        refine lv_iadd hx hb dX6_kindMany_30 ?_
        refine lv_topi (fun x5 ex5 => ?_)
        have hf := qnm_t hf ex5
        refine lv_istore_n (lv' := [(2, .int x5), (0, .ref (ad 238)), (1, .int x1), (3, .int x3)]) hx hb dX6_kindMany_31 rfl hl (by decide) rfl (fun ls hl => ?_)
        obtain ⟨x6, ex6⟩ : ∃ y : Int32, y = x3 + 1 := ⟨_, rfl⟩
        have hf := qnm_t hf ex6
        refine lv_iinc (v := x6) (lv' := [(3, .int x6), (2, .int x5), (0, .ref (ad 238)), (1, .int x1)]) hx hb dX6_kindMany_32 hl (k := 3) rfl (by rw [ex6]; rfl) (by decide) rfl (fun ls hl => ?_)
        refine lv_goto (tgt := 4) hx hb dX6_kindMany_35 (by decide) ?_
        exact ih _ _ _ _ _ _ hf hR (lv_sub hl [2, 3, 1, 0] rfl)
      · have hf := qif_t hf c_4
        refine lv_iconst (v := 1) hx hb dX6_kindMany_25 (by decide) ?_
        refine lv_goto (tgt := 30) hx hb dX6_kindMany_26 (by decide) ?_
        refine lv_iadd hx hb dX6_kindMany_30 ?_
        refine lv_topi (fun x7 ex7 => ?_)
        have hf := qnm_t hf ex7
        refine lv_istore_n (lv' := [(2, .int x7), (0, .ref (ad 238)), (1, .int x1), (3, .int x3)]) hx hb dX6_kindMany_31 rfl hl (by decide) rfl (fun ls hl => ?_)
        obtain ⟨x8, ex8⟩ : ∃ y : Int32, y = x3 + 1 := ⟨_, rfl⟩
        have hf := qnm_t hf ex8
        refine lv_iinc (v := x8) (lv' := [(3, .int x8), (2, .int x7), (0, .ref (ad 238)), (1, .int x1)]) hx hb dX6_kindMany_32 hl (k := 3) rfl (by rw [ex8]; rfl) (by decide) rfl (fun ls hl => ?_)
        refine lv_goto (tgt := 4) hx hb dX6_kindMany_35 (by decide) ?_
        exact ih _ _ _ _ _ _ hf hR (lv_sub hl [2, 3, 1, 0] rfl)
def fX6_kindMany (w : qMem)  (a1 : Int32) : Option (Int32) :=
  fX6_kindMany_L4 w 100 a1 0 0
theorem qhd_X6_kindMany : yX6_kindMany.cls ≠ "java/lang/invoke/MethodHandle" ∧ yX6_kindMany.cls ≠ "java/lang/invoke/VarHandle" ∧ (parseMethodDescriptor yX6_kindMany.desc).map (fun d => d.parameters.length) = some 1 := ⟨by decide +kernel, by decide +kernel, by decide +kernel⟩
set_option maxHeartbeats 4000000 in
set_option maxRecDepth 100000 in
theorem mX6_kindMany {l : Launch} {D : va_G} {G : Nat → ClassId} {ad : Nat → Nat} (hJ : qInj ad) {w : qMem}   {a1 : Int32} {rF : Int32} (hf : fX6_kindMany w a1 = some rF) : qCMi l D G ad yX6_kindMany cX6_kindMany 4 (some .int) 2 0 0 [.ref (ad 238), .int a1] w rF w := by
  refine q_start RX6 rfl (by decide +kernel) hJ (fun a b h => by simp only [qQI, qQV, qQR, h]) (Nat.le_of_ble_eq_true rfl) ?_
  intro p e s m args below meth c0 ls hC hr hR hl
  have hx := hC.1
  have hb := hC.2.1
  have hl : lv_has ls 4 [(0, .ref (ad 238)), (1, .int a1)] := hl
  unfold fX6_kindMany at hf
  refine lv_iconst (v := 0) hx hb dX6_kindMany_0 (by decide) ?_
  refine lv_istore_n (lv' := [(2, .int 0), (0, .ref (ad 238)), (1, .int a1)]) hx hb dX6_kindMany_1 rfl hl (by decide) rfl (fun ls hl => ?_)
  refine lv_iconst (v := 0) hx hb dX6_kindMany_2 (by decide) ?_
  refine lv_istore_n (lv' := [(3, .int 0), (2, .int 0), (0, .ref (ad 238)), (1, .int a1)]) hx hb dX6_kindMany_3 rfl hl (by decide) rfl (fun ls hl => ?_)
  exact mX6_kindMany_L4 hC hr 100 _ _ _ _ _ _ hf hR (lv_sub hl [2, 3, 1, 0] rfl)
-- X6.comes
def fX6_comes_L77   : Nat → qMem → Int32 → Int32 → Int32 → Int32 → Int32 → Option (Int32 × qMem)
  | 0, _, _, _, _, _, _ => none
  | n + 1, w, x1, x2, x3, x4, x5 =>
    if (7 : Int32) ≤ x5 then
      qnm (quw w 239 0 ((w 239 0) + 1)) fun (w17 : qMem) =>
      some (x4, w17)
    else
      if x5 = 0 then
        qbd (fX6_sets w x4 x5 x1) fun (w31 : qMem) =>
        qnm (x5 + 1) fun (x32 : Int32) =>
        fX6_comes_L77 n w31 x1 x2 x3 x4 x32
      else
        if x5 = 1 then
          qbd (fX6_sets w x4 x5 x2) fun (w28 : qMem) =>
          qnm (x5 + 1) fun (x29 : Int32) =>
          fX6_comes_L77 n w28 x1 x2 x3 x4 x29
        else
          if x5 = 2 then
            qbd (fX6_sets w x4 x5 x3) fun (w25 : qMem) =>
            qnm (x5 + 1) fun (x26 : Int32) =>
            fX6_comes_L77 n w25 x1 x2 x3 x4 x26
          else
            qbd (fX6_sets w x4 x5 0) fun (w22 : qMem) =>
            qnm (x5 + 1) fun (x23 : Int32) =>
            fX6_comes_L77 n w22 x1 x2 x3 x4 x23
set_option maxHeartbeats 4000000 in
set_option maxRecDepth 100000 in
theorem mX6_comes_L77 {p : Program} {l : Launch} {e : Env} {s : State} {m : MethodId} {args : Array Value} {below : List Frame} {meth : Method} {c0 : Code} {D : va_G} {G : Nat → ClassId} {ad : Nat → Nat}   {rF : Int32} {wF : qMem}  (hC : qCx p c0 cX6_comes 6 s m args meth RX6 D G ad) (hr : meth.sig.returnType = some .int)  : ∀ (n : Nat), ∀ (w : qMem) (x1 : Int32) (x2 : Int32) (x3 : Int32) (x4 : Int32) (x5 : Int32) (H : Heap) (locs : List Loc) (ls : Array Slot), fX6_comes_L77 n w x1 x2 x3 x4 x5 = some (rF, wF) → qRp D G ad s w H locs → lv_has ls 6 [(0, .ref (ad 238)), (1, .int x1), (2, .int x2), (3, .int x3), (4, .int x4), (5, .int x5)] → W p l e (qrm 3 0 0) s m args below meth c0 H locs 0 0 (MQ below (qQI D G ad s wF rF) args s 0 0 (qAdr ad s.heap.size)) (F0 m 77 ls []) := by
  have hx := hC.1
  have hb := hC.2.1
  intro n
  induction n with
  | zero => intro w x1 x2 x3 x4 x5 H locs ls hf; exact nomatch (show (none : Option (Int32 × qMem)) = some _ from hf)
  | succ n ih =>
    intro w x1 x2 x3 x4 x5 H locs ls hf hR hl
    rw [fX6_comes_L77] at hf
    refine lv_iload hx hb dX6_comes_77 (lv_at hl 5 rfl) ?_
    refine lv_bipush (v := 7) hx hb dX6_comes_79 (by decide) ?_
    refine lv_icmp_ge (tgt := 128) hx hb dX6_comes_81 (by decide) (fun c_16 => ?_) (fun c_16 => ?_)
    · have hf := qif_t hf c_16
      refine lv_aload_n hx hb dX6_comes_128 rfl (lv_at hl 0 rfl) ?_
      refine qget_X6_0 hC hR qk_1125 dX6_comes_129 ?_
      refine lv_iconst (v := 0) hx hb dX6_comes_132 (by decide) ?_
      refine lv_dup2_11 hx hb dX6_comes_133 rfl rfl ?_
      refine q_ild hC hR (j := 0) (by decide) (qsh_239 G ad _) (by decide) (by decide) dX6_comes_134 ?_
      refine lv_iconst (v := 1) hx hb dX6_comes_135 (by decide) ?_
      refine lv_iadd hx hb dX6_comes_136 ?_
      refine q_ist hC hR (j := 0) (by decide) (fun f => qsh_239 G ad f) (by decide) (by decide) dX6_comes_137 (fun w17 H locs ew17 hR => ?_)
      have hf := qnm_t hf ew17
      refine lv_iload hx hb dX6_comes_138 (lv_at hl 4 rfl) ?_
      exact q_iret hC hR hr rfl (qso2 hf).1 (qso2 hf).2 dX6_comes_140
    · have hf := qif_f hf c_16
      refine lv_aload_n hx hb dX6_comes_84 rfl (lv_at hl 0 rfl) ?_
      refine lv_iload hx hb dX6_comes_85 (lv_at hl 4 rfl) ?_
      refine lv_iload hx hb dX6_comes_87 (lv_at hl 5 rfl) ?_
      refine lv_iload hx hb dX6_comes_89 (lv_at hl 5 rfl) ?_
      refine lv_if_ne (tgt := 98) hx hb dX6_comes_91 (by decide) (fun c_18 => ?_) (fun c_18 => ?_)
      · have hf := qif_f hf c_18
        refine lv_iload hx hb dX6_comes_98 (lv_at hl 5 rfl) ?_
        refine lv_iconst (v := 1) hx hb dX6_comes_100 (by decide) ?_
        refine lv_icmp_ne (tgt := 108) hx hb dX6_comes_101 (by decide) (fun c_19 => ?_) (fun c_19 => ?_)
        · have hf := qif_f hf c_19
          refine lv_iload hx hb dX6_comes_108 (lv_at hl 5 rfl) ?_
          refine lv_iconst (v := 2) hx hb dX6_comes_110 (by decide) ?_
          refine lv_icmp_ne (tgt := 118) hx hb dX6_comes_111 (by decide) (fun c_20 => ?_) (fun c_20 => ?_)
          · have hf := qif_f hf c_20
            refine lv_iconst (v := 0) hx hb dX6_comes_118 (by decide) ?_
            obtain ⟨w22, hq21, hf⟩ := qbd_s hf
            refine q_callVv hC hR (mX6_sets (qJ hC) hq21) (by decide) (qsh_238 G ad _) rfl qk_1234 qk_1236 qk_24 qk_64 qk_1237 qhd_X6_sets ⟨Nat.le_of_ble_eq_true rfl, Nat.le_of_ble_eq_true rfl⟩ hl.1 rfl (Nat.le_of_ble_eq_true rfl) dX6_comes_119 ⟨Nat.zero_le _, Nat.zero_le _⟩ (fun H locs hR => ?_)
            obtain ⟨x23, ex23⟩ : ∃ y : Int32, y = x5 + 1 := ⟨_, rfl⟩
            have hf := qnm_t hf ex23
            refine lv_iinc (v := x23) (lv' := [(5, .int x23), (0, .ref (ad 238)), (1, .int x1), (2, .int x2), (3, .int x3), (4, .int x4)]) hx hb dX6_comes_122 hl (k := 5) rfl (by rw [ex23]; rfl) (by decide) rfl (fun ls hl => ?_)
            refine lv_goto (tgt := 77) hx hb dX6_comes_125 (by decide) ?_
            exact ih _ _ _ _ _ _ _ _ _ hf hR (lv_sub hl [1, 2, 3, 4, 5, 0] rfl)
          · have hf := qif_t hf c_20
            refine lv_iload_n hx hb dX6_comes_114 rfl (lv_at hl 3 rfl) ?_
            refine lv_goto (tgt := 119) hx hb dX6_comes_115 (by decide) ?_
            obtain ⟨w25, hq24, hf⟩ := qbd_s hf
            refine q_callVv hC hR (mX6_sets (qJ hC) hq24) (by decide) (qsh_238 G ad _) rfl qk_1234 qk_1236 qk_24 qk_64 qk_1237 qhd_X6_sets ⟨Nat.le_of_ble_eq_true rfl, Nat.le_of_ble_eq_true rfl⟩ hl.1 rfl (Nat.le_of_ble_eq_true rfl) dX6_comes_119 ⟨Nat.zero_le _, Nat.zero_le _⟩ (fun H locs hR => ?_)
            obtain ⟨x26, ex26⟩ : ∃ y : Int32, y = x5 + 1 := ⟨_, rfl⟩
            have hf := qnm_t hf ex26
            refine lv_iinc (v := x26) (lv' := [(5, .int x26), (0, .ref (ad 238)), (1, .int x1), (2, .int x2), (3, .int x3), (4, .int x4)]) hx hb dX6_comes_122 hl (k := 5) rfl (by rw [ex26]; rfl) (by decide) rfl (fun ls hl => ?_)
            refine lv_goto (tgt := 77) hx hb dX6_comes_125 (by decide) ?_
            exact ih _ _ _ _ _ _ _ _ _ hf hR (lv_sub hl [1, 2, 3, 4, 5, 0] rfl)
        · have hf := qif_t hf c_19
          refine lv_iload_n hx hb dX6_comes_104 rfl (lv_at hl 2 rfl) ?_
          refine lv_goto (tgt := 119) hx hb dX6_comes_105 (by decide) ?_
          obtain ⟨w28, hq27, hf⟩ := qbd_s hf
          refine q_callVv hC hR (mX6_sets (qJ hC) hq27) (by decide) (qsh_238 G ad _) rfl qk_1234 qk_1236 qk_24 qk_64 qk_1237 qhd_X6_sets ⟨Nat.le_of_ble_eq_true rfl, Nat.le_of_ble_eq_true rfl⟩ hl.1 rfl (Nat.le_of_ble_eq_true rfl) dX6_comes_119 ⟨Nat.zero_le _, Nat.zero_le _⟩ (fun H locs hR => ?_)
          obtain ⟨x29, ex29⟩ : ∃ y : Int32, y = x5 + 1 := ⟨_, rfl⟩
          have hf := qnm_t hf ex29
          refine lv_iinc (v := x29) (lv' := [(5, .int x29), (0, .ref (ad 238)), (1, .int x1), (2, .int x2), (3, .int x3), (4, .int x4)]) hx hb dX6_comes_122 hl (k := 5) rfl (by rw [ex29]; rfl) (by decide) rfl (fun ls hl => ?_)
          refine lv_goto (tgt := 77) hx hb dX6_comes_125 (by decide) ?_
          exact ih _ _ _ _ _ _ _ _ _ hf hR (lv_sub hl [1, 2, 3, 4, 5, 0] rfl)
      · have hf := qif_t hf c_18
        refine lv_iload_n hx hb dX6_comes_94 rfl (lv_at hl 1 rfl) ?_
        refine lv_goto (tgt := 119) hx hb dX6_comes_95 (by decide) ?_
        obtain ⟨w31, hq30, hf⟩ := qbd_s hf
        refine q_callVv hC hR (mX6_sets (qJ hC) hq30) (by decide) (qsh_238 G ad _) rfl qk_1234 qk_1236 qk_24 qk_64 qk_1237 qhd_X6_sets ⟨Nat.le_of_ble_eq_true rfl, Nat.le_of_ble_eq_true rfl⟩ hl.1 rfl (Nat.le_of_ble_eq_true rfl) dX6_comes_119 ⟨Nat.zero_le _, Nat.zero_le _⟩ (fun H locs hR => ?_)
        obtain ⟨x32, ex32⟩ : ∃ y : Int32, y = x5 + 1 := ⟨_, rfl⟩
        have hf := qnm_t hf ex32
        refine lv_iinc (v := x32) (lv' := [(5, .int x32), (0, .ref (ad 238)), (1, .int x1), (2, .int x2), (3, .int x3), (4, .int x4)]) hx hb dX6_comes_122 hl (k := 5) rfl (by rw [ex32]; rfl) (by decide) rfl (fun ls hl => ?_)
        refine lv_goto (tgt := 77) hx hb dX6_comes_125 (by decide) ?_
        exact ih _ _ _ _ _ _ _ _ _ hf hR (lv_sub hl [1, 2, 3, 4, 5, 0] rfl)
def fX6_comes_L26   (w : qMem) (x1 : Int32) (x2 : Int32) (x3 : Int32) (x4 : Int32) (s0 : Int32) (s1 : Int32) : Option (Int32 × qMem) :=
  qbd (fX6_in w s1 s0 9) fun (r10 : Int32) =>
  if r10 = 0 then
    qbd2 (fX6_fails w 1) fun (r40 : Int32) (w41 : qMem) =>
    some (r40, w41)
  else
    if x4 = 12 then
      qbd2 (fX6_refuse w 2 1 12) fun (r37 : Int32) (w38 : qMem) =>
      some (r37, w38)
    else
      qbd (fX6_there w x1 x2) fun (r14 : Int32) =>
      if r14 = 5 then
        qbd2 (fX6_refuse w 2 2 x2) fun (r34 : Int32) (w35 : qMem) =>
        some (r34, w35)
      else
        fX6_comes_L77 100 w x1 x2 x3 x4 0
set_option maxHeartbeats 4000000 in
set_option maxRecDepth 100000 in
theorem mX6_comes_L26 {p : Program} {l : Launch} {e : Env} {s : State} {m : MethodId} {args : Array Value} {below : List Frame} {meth : Method} {c0 : Code} {D : va_G} {G : Nat → ClassId} {ad : Nat → Nat}   {rF : Int32} {wF : qMem}  (hC : qCx p c0 cX6_comes 6 s m args meth RX6 D G ad) (hr : meth.sig.returnType = some .int)  : ∀ (w : qMem) (x1 : Int32) (x2 : Int32) (x3 : Int32) (x4 : Int32) (s0 : Int32) (s1 : Int32) (H : Heap) (locs : List Loc) (ls : Array Slot), fX6_comes_L26 w x1 x2 x3 x4 s0 s1 = some (rF, wF) → qRp D G ad s w H locs → lv_has ls 6 [(0, .ref (ad 238)), (1, .int x1), (2, .int x2), (3, .int x3), (4, .int x4)] → W p l e (qrm 3 0 0) s m args below meth c0 H locs 0 0 (MQ below (qQI D G ad s wF rF) args s 0 0 (qAdr ad s.heap.size)) (F0 m 26 ls [.int s0, .int s1]) := by
  have hx := hC.1
  have hb := hC.2.1
  intro w x1 x2 x3 x4 s0 s1 H locs ls hf hR hl
  unfold fX6_comes_L26 at hf
  refine lv_bipush (v := 9) hx hb dX6_comes_26 (by decide) ?_
  obtain ⟨r10, hq9, hf⟩ := qbd_s hf
  refine q_callSi hC hR (mX6_in (qJ hC) hq9) qk_1215 qk_1216 qk_64 qk_1217 qhd_X6_in ⟨Nat.le_of_ble_eq_true rfl, Nat.le_of_ble_eq_true rfl⟩ hl.1 rfl (Nat.le_of_ble_eq_true rfl) dX6_comes_28 ⟨Nat.zero_le _, Nat.zero_le _⟩ (fun H locs hR => ?_)
  refine lv_if_ne (tgt := 40) hx hb dX6_comes_31 (by decide) (fun c_11 => ?_) (fun c_11 => ?_)
  · have hf := qif_f hf c_11
    refine lv_iload hx hb dX6_comes_40 (lv_at hl 4 rfl) ?_
    refine lv_bipush (v := 12) hx hb dX6_comes_42 (by decide) ?_
    refine lv_icmp_ne (tgt := 56) hx hb dX6_comes_44 (by decide) (fun c_12 => ?_) (fun c_12 => ?_)
    · have hf := qif_f hf c_12
      refine lv_aload_n hx hb dX6_comes_56 rfl (lv_at hl 0 rfl) ?_
      refine lv_iload_n hx hb dX6_comes_57 rfl (lv_at hl 1 rfl) ?_
      refine lv_iload_n hx hb dX6_comes_58 rfl (lv_at hl 2 rfl) ?_
      obtain ⟨r14, hq13, hf⟩ := qbd_s hf
      refine q_callVi hC hR (mX6_there (qJ hC) hq13) (by decide) (qsh_238 G ad _) rfl qk_1226 qk_1228 qk_22 qk_64 qk_1229 qhd_X6_there ⟨Nat.le_of_ble_eq_true rfl, Nat.le_of_ble_eq_true rfl⟩ hl.1 rfl (Nat.le_of_ble_eq_true rfl) dX6_comes_59 ⟨Nat.zero_le _, Nat.zero_le _⟩ (fun H locs hR => ?_)
      refine lv_iconst (v := 5) hx hb dX6_comes_62 (by decide) ?_
      refine lv_icmp_ne (tgt := 74) hx hb dX6_comes_63 (by decide) (fun c_15 => ?_) (fun c_15 => ?_)
      · have hf := qif_f hf c_15
        refine lv_iconst (v := 0) hx hb dX6_comes_74 (by decide) ?_
        refine lv_istore (lv' := [(5, .int 0), (0, .ref (ad 238)), (1, .int x1), (2, .int x2), (3, .int x3), (4, .int x4)]) hx hb dX6_comes_75 hl (by decide) rfl (fun ls hl => ?_)
        exact mX6_comes_L77 hC hr 100 _ _ _ _ _ _ _ _ _ hf hR (lv_sub hl [1, 2, 3, 4, 5, 0] rfl)
      · have hf := qif_t hf c_15
        refine lv_aload_n hx hb dX6_comes_66 rfl (lv_at hl 0 rfl) ?_
        refine lv_iconst (v := 2) hx hb dX6_comes_67 (by decide) ?_
        refine lv_iconst (v := 2) hx hb dX6_comes_68 (by decide) ?_
        refine lv_iload_n hx hb dX6_comes_69 rfl (lv_at hl 2 rfl) ?_
        obtain ⟨r34, w35, hq33, hf⟩ := qbd2_s hf
        refine q_callVi hC hR (mX6_refuse (qJ hC) hq33) (by decide) (qsh_238 G ad _) rfl qk_1222 qk_1224 qk_21 qk_64 qk_1225 qhd_X6_refuse ⟨Nat.le_of_ble_eq_true rfl, Nat.le_of_ble_eq_true rfl⟩ hl.1 rfl (Nat.le_of_ble_eq_true rfl) dX6_comes_70 ⟨Nat.zero_le _, Nat.zero_le _⟩ (fun H locs hR => ?_)
        exact q_iret hC hR hr rfl (qso2 hf).1 (qso2 hf).2 dX6_comes_73
    · have hf := qif_t hf c_12
      refine lv_aload_n hx hb dX6_comes_47 rfl (lv_at hl 0 rfl) ?_
      refine lv_iconst (v := 2) hx hb dX6_comes_48 (by decide) ?_
      refine lv_iconst (v := 1) hx hb dX6_comes_49 (by decide) ?_
      refine lv_bipush (v := 12) hx hb dX6_comes_50 (by decide) ?_
      obtain ⟨r37, w38, hq36, hf⟩ := qbd2_s hf
      refine q_callVi hC hR (mX6_refuse (qJ hC) hq36) (by decide) (qsh_238 G ad _) rfl qk_1222 qk_1224 qk_21 qk_64 qk_1225 qhd_X6_refuse ⟨Nat.le_of_ble_eq_true rfl, Nat.le_of_ble_eq_true rfl⟩ hl.1 rfl (Nat.le_of_ble_eq_true rfl) dX6_comes_52 ⟨Nat.zero_le _, Nat.zero_le _⟩ (fun H locs hR => ?_)
      exact q_iret hC hR hr rfl (qso2 hf).1 (qso2 hf).2 dX6_comes_55
  · have hf := qif_t hf c_11
    refine lv_aload_n hx hb dX6_comes_34 rfl (lv_at hl 0 rfl) ?_
    refine lv_iconst (v := 1) hx hb dX6_comes_35 (by decide) ?_
    obtain ⟨r40, w41, hq39, hf⟩ := qbd2_s hf
    refine q_callVi hC hR (mX6_fails (qJ hC) hq39) (by decide) (qsh_238 G ad _) rfl qk_1218 qk_1220 qk_20 qk_64 qk_1221 qhd_X6_fails ⟨Nat.le_of_ble_eq_true rfl, Nat.le_of_ble_eq_true rfl⟩ hl.1 rfl (Nat.le_of_ble_eq_true rfl) dX6_comes_36 ⟨Nat.zero_le _, Nat.zero_le _⟩ (fun H locs hR => ?_)
    exact q_iret hC hR hr rfl (qso2 hf).1 (qso2 hf).2 dX6_comes_39
def fX6_comes (w : qMem)  (a1 : Int32) (a2 : Int32) (a3 : Int32) : Option (Int32 × qMem) :=
  qnm (w 239 0) fun (x1 : Int32) =>
  qbd (fX6_isFloor w a2) fun (r3 : Int32) =>
  if r3 = 0 then
    qbd2 (fX6_fails w 1) fun (r6 : Int32) (w7 : qMem) =>
    some (r6, w7)
  else
    if a1 = 3 then
      fX6_comes_L26 w a1 a2 a3 x1 0 a3
    else
      fX6_comes_L26 w a1 a2 a3 x1 1 a3
theorem qhd_X6_comes : yX6_comes.cls ≠ "java/lang/invoke/MethodHandle" ∧ yX6_comes.cls ≠ "java/lang/invoke/VarHandle" ∧ (parseMethodDescriptor yX6_comes.desc).map (fun d => d.parameters.length) = some 3 := ⟨by decide +kernel, by decide +kernel, by decide +kernel⟩
set_option maxHeartbeats 4000000 in
set_option maxRecDepth 100000 in
theorem mX6_comes {l : Launch} {D : va_G} {G : Nat → ClassId} {ad : Nat → Nat} (hJ : qInj ad) {w : qMem}   {a1 : Int32} {a2 : Int32} {a3 : Int32} {rF : Int32} {wF : qMem} (hf : fX6_comes w a1 a2 a3 = some (rF, wF)) : qCMi l D G ad yX6_comes cX6_comes 6 (some .int) 3 0 0 [.ref (ad 238), .int a1, .int a2, .int a3] w rF wF := by
  refine q_start RX6 rfl (by decide +kernel) hJ (fun a b h => by simp only [qQI, qQV, qQR, h]) (Nat.le_of_ble_eq_true rfl) ?_
  intro p e s m args below meth c0 ls hC hr hR hl
  have hx := hC.1
  have hb := hC.2.1
  have hl : lv_has ls 6 [(0, .ref (ad 238)), (1, .int a1), (2, .int a2), (3, .int a3)] := hl
  unfold fX6_comes at hf
  refine lv_aload_n hx hb dX6_comes_0 rfl (lv_at hl 0 rfl) ?_
  refine qget_X6_0 hC hR qk_1125 dX6_comes_1 ?_
  refine lv_iconst (v := 0) hx hb dX6_comes_4 (by decide) ?_
  refine q_ild hC hR (j := 0) (by decide) (qsh_239 G ad _) (by decide) (by decide) dX6_comes_5 ?_
  refine lv_topi (fun x1 ex1 => ?_)
  have hf := qnm_t hf ex1
  refine lv_istore (lv' := [(4, .int x1), (0, .ref (ad 238)), (1, .int a1), (2, .int a2), (3, .int a3)]) hx hb dX6_comes_6 hl (by decide) rfl (fun ls hl => ?_)
  refine lv_iload_n hx hb dX6_comes_8 rfl (lv_at hl 3 rfl) ?_
  obtain ⟨r3, hq2, hf⟩ := qbd_s hf
  refine q_callSi hC hR (mX6_isFloor (qJ hC) hq2) qk_1212 qk_1213 qk_64 qk_1214 qhd_X6_isFloor ⟨Nat.le_of_ble_eq_true rfl, Nat.le_of_ble_eq_true rfl⟩ hl.1 rfl (Nat.le_of_ble_eq_true rfl) dX6_comes_9 ⟨Nat.zero_le _, Nat.zero_le _⟩ (fun H locs hR => ?_)
  refine lv_if_eq (tgt := 34) hx hb dX6_comes_12 (by decide) (fun c_4 => ?_) (fun c_4 => ?_)
  · have hf := qif_t hf c_4
    refine lv_aload_n hx hb dX6_comes_34 rfl (lv_at hl 1 rfl) ?_
    refine lv_iconst (v := 1) hx hb dX6_comes_35 (by decide) ?_
    obtain ⟨r6, w7, hq5, hf⟩ := qbd2_s hf
    refine q_callVi hC hR (mX6_fails (qJ hC) hq5) (by decide) (qsh_238 G ad _) rfl qk_1218 qk_1220 qk_20 qk_64 qk_1221 qhd_X6_fails ⟨Nat.le_of_ble_eq_true rfl, Nat.le_of_ble_eq_true rfl⟩ hl.1 rfl (Nat.le_of_ble_eq_true rfl) dX6_comes_36 ⟨Nat.zero_le _, Nat.zero_le _⟩ (fun H locs hR => ?_)
    exact q_iret hC hR hr rfl (qso2 hf).1 (qso2 hf).2 dX6_comes_39
  · have hf := qif_f hf c_4
    refine lv_iload_n hx hb dX6_comes_15 rfl (lv_at hl 4 rfl) ?_
    refine lv_iload_n hx hb dX6_comes_16 rfl (lv_at hl 2 rfl) ?_
    refine lv_iconst (v := 3) hx hb dX6_comes_17 (by decide) ?_
    refine lv_icmp_ne (tgt := 25) hx hb dX6_comes_18 (by decide) (fun c_8 => ?_) (fun c_8 => ?_)
    · have hf := qif_f hf c_8
      refine lv_iconst (v := 1) hx hb dX6_comes_25 (by decide) ?_
      exact mX6_comes_L26 hC hr _ _ _ _ _ _ _ _ _ _ hf hR (lv_sub hl [1, 2, 3, 4, 0] rfl)
    · have hf := qif_t hf c_8
      refine lv_iconst (v := 0) hx hb dX6_comes_21 (by decide) ?_
      refine lv_goto (tgt := 26) hx hb dX6_comes_22 (by decide) ?_
      exact mX6_comes_L26 hC hr _ _ _ _ _ _ _ _ _ _ hf hR (lv_sub hl [1, 2, 3, 4, 0] rfl)
-- X6.cup
def fX6_cup (w : qMem)  (a1 : Int32) (a2 : Int32) : Option (Int32 × qMem) :=
  qbd (fX6_keep w) fun (w2 : qMem) =>
  qbd2 (fX6_comes w2 1 a1 a2) fun (r4 : Int32) (w5 : qMem) =>
  qbd2 (fX6_ends w5 r4) fun (r7 : Int32) (w8 : qMem) =>
  some (r7, w8)
theorem qhd_X6_cup : yX6_cup.cls ≠ "java/lang/invoke/MethodHandle" ∧ yX6_cup.cls ≠ "java/lang/invoke/VarHandle" ∧ (parseMethodDescriptor yX6_cup.desc).map (fun d => d.parameters.length) = some 2 := ⟨by decide +kernel, by decide +kernel, by decide +kernel⟩
set_option maxHeartbeats 4000000 in
set_option maxRecDepth 100000 in
theorem mX6_cup {l : Launch} {D : va_G} {G : Nat → ClassId} {ad : Nat → Nat} (hJ : qInj ad) {w : qMem}   {a1 : Int32} {a2 : Int32} {rF : Int32} {wF : qMem} (hf : fX6_cup w a1 a2 = some (rF, wF)) : qCMi l D G ad yX6_cup cX6_cup 3 (some .int) 4 0 0 [.ref (ad 238), .int a1, .int a2] w rF wF := by
  refine q_start RX6 rfl (by decide +kernel) hJ (fun a b h => by simp only [qQI, qQV, qQR, h]) (Nat.le_of_ble_eq_true rfl) ?_
  intro p e s m args below meth c0 ls hC hr hR hl
  have hx := hC.1
  have hb := hC.2.1
  have hl : lv_has ls 3 [(0, .ref (ad 238)), (1, .int a1), (2, .int a2)] := hl
  unfold fX6_cup at hf
  refine lv_aload_n hx hb dX6_cup_0 rfl (lv_at hl 0 rfl) ?_
  obtain ⟨w2, hq1, hf⟩ := qbd_s hf
  refine q_callVv hC hR (mX6_keep (qJ hC) hq1) (by decide) (qsh_238 G ad _) rfl qk_1201 qk_1203 qk_18 qk_64 qk_1204 qhd_X6_keep ⟨Nat.le_of_ble_eq_true rfl, Nat.le_of_ble_eq_true rfl⟩ hl.1 rfl (Nat.le_of_ble_eq_true rfl) dX6_cup_1 ⟨Nat.zero_le _, Nat.zero_le _⟩ (fun H locs hR => ?_)
  refine lv_aload_n hx hb dX6_cup_4 rfl (lv_at hl 0 rfl) ?_
  refine lv_aload_n hx hb dX6_cup_5 rfl (lv_at hl 0 rfl) ?_
  refine lv_iconst (v := 1) hx hb dX6_cup_6 (by decide) ?_
  refine lv_iload_n hx hb dX6_cup_7 rfl (lv_at hl 1 rfl) ?_
  refine lv_iload_n hx hb dX6_cup_8 rfl (lv_at hl 2 rfl) ?_
  obtain ⟨r4, w5, hq3, hf⟩ := qbd2_s hf
  refine q_callVi hC hR (mX6_comes (qJ hC) hq3) (by decide) (qsh_238 G ad _) rfl qk_1208 qk_1210 qk_19 qk_64 qk_1211 qhd_X6_comes ⟨Nat.le_of_ble_eq_true rfl, Nat.le_of_ble_eq_true rfl⟩ hl.1 rfl (Nat.le_of_ble_eq_true rfl) dX6_cup_9 ⟨Nat.zero_le _, Nat.zero_le _⟩ (fun H locs hR => ?_)
  obtain ⟨r7, w8, hq6, hf⟩ := qbd2_s hf
  refine q_callVi hC hR (mX6_ends (qJ hC) hq6) (by decide) (qsh_238 G ad _) rfl qk_1238 qk_1240 qk_25 qk_64 qk_1241 qhd_X6_ends ⟨Nat.le_of_ble_eq_true rfl, Nat.le_of_ble_eq_true rfl⟩ hl.1 rfl (Nat.le_of_ble_eq_true rfl) dX6_cup_12 ⟨Nat.zero_le _, Nat.zero_le _⟩ (fun H locs hR => ?_)
  exact q_iret hC hR hr rfl (qso2 hf).1 (qso2 hf).2 dX6_cup_15
-- X6.lamp
def fX6_lamp (w : qMem)  (a1 : Int32) (a2 : Int32) : Option (Int32 × qMem) :=
  qbd (fX6_keep w) fun (w2 : qMem) =>
  qbd2 (fX6_comes w2 2 a1 a2) fun (r4 : Int32) (w5 : qMem) =>
  qbd2 (fX6_ends w5 r4) fun (r7 : Int32) (w8 : qMem) =>
  some (r7, w8)
theorem qhd_X6_lamp : yX6_lamp.cls ≠ "java/lang/invoke/MethodHandle" ∧ yX6_lamp.cls ≠ "java/lang/invoke/VarHandle" ∧ (parseMethodDescriptor yX6_lamp.desc).map (fun d => d.parameters.length) = some 2 := ⟨by decide +kernel, by decide +kernel, by decide +kernel⟩
set_option maxHeartbeats 4000000 in
set_option maxRecDepth 100000 in
theorem mX6_lamp {l : Launch} {D : va_G} {G : Nat → ClassId} {ad : Nat → Nat} (hJ : qInj ad) {w : qMem}   {a1 : Int32} {a2 : Int32} {rF : Int32} {wF : qMem} (hf : fX6_lamp w a1 a2 = some (rF, wF)) : qCMi l D G ad yX6_lamp cX6_lamp 3 (some .int) 4 0 0 [.ref (ad 238), .int a1, .int a2] w rF wF := by
  refine q_start RX6 rfl (by decide +kernel) hJ (fun a b h => by simp only [qQI, qQV, qQR, h]) (Nat.le_of_ble_eq_true rfl) ?_
  intro p e s m args below meth c0 ls hC hr hR hl
  have hx := hC.1
  have hb := hC.2.1
  have hl : lv_has ls 3 [(0, .ref (ad 238)), (1, .int a1), (2, .int a2)] := hl
  unfold fX6_lamp at hf
  refine lv_aload_n hx hb dX6_lamp_0 rfl (lv_at hl 0 rfl) ?_
  obtain ⟨w2, hq1, hf⟩ := qbd_s hf
  refine q_callVv hC hR (mX6_keep (qJ hC) hq1) (by decide) (qsh_238 G ad _) rfl qk_1201 qk_1203 qk_18 qk_64 qk_1204 qhd_X6_keep ⟨Nat.le_of_ble_eq_true rfl, Nat.le_of_ble_eq_true rfl⟩ hl.1 rfl (Nat.le_of_ble_eq_true rfl) dX6_lamp_1 ⟨Nat.zero_le _, Nat.zero_le _⟩ (fun H locs hR => ?_)
  refine lv_aload_n hx hb dX6_lamp_4 rfl (lv_at hl 0 rfl) ?_
  refine lv_aload_n hx hb dX6_lamp_5 rfl (lv_at hl 0 rfl) ?_
  refine lv_iconst (v := 2) hx hb dX6_lamp_6 (by decide) ?_
  refine lv_iload_n hx hb dX6_lamp_7 rfl (lv_at hl 1 rfl) ?_
  refine lv_iload_n hx hb dX6_lamp_8 rfl (lv_at hl 2 rfl) ?_
  obtain ⟨r4, w5, hq3, hf⟩ := qbd2_s hf
  refine q_callVi hC hR (mX6_comes (qJ hC) hq3) (by decide) (qsh_238 G ad _) rfl qk_1208 qk_1210 qk_19 qk_64 qk_1211 qhd_X6_comes ⟨Nat.le_of_ble_eq_true rfl, Nat.le_of_ble_eq_true rfl⟩ hl.1 rfl (Nat.le_of_ble_eq_true rfl) dX6_lamp_9 ⟨Nat.zero_le _, Nat.zero_le _⟩ (fun H locs hR => ?_)
  obtain ⟨r7, w8, hq6, hf⟩ := qbd2_s hf
  refine q_callVi hC hR (mX6_ends (qJ hC) hq6) (by decide) (qsh_238 G ad _) rfl qk_1238 qk_1240 qk_25 qk_64 qk_1241 qhd_X6_ends ⟨Nat.le_of_ble_eq_true rfl, Nat.le_of_ble_eq_true rfl⟩ hl.1 rfl (Nat.le_of_ble_eq_true rfl) dX6_lamp_12 ⟨Nat.zero_le _, Nat.zero_le _⟩ (fun H locs hR => ?_)
  exact q_iret hC hR hr rfl (qso2 hf).1 (qso2 hf).2 dX6_lamp_15
-- X6.cat
def fX6_cat (w : qMem)  (a1 : Int32) (a2 : Int32) : Option (Int32 × qMem) :=
  qbd (fX6_keep w) fun (w2 : qMem) =>
  qbd2 (fX6_comes w2 3 a1 a2) fun (r4 : Int32) (w5 : qMem) =>
  qbd2 (fX6_ends w5 r4) fun (r7 : Int32) (w8 : qMem) =>
  some (r7, w8)
theorem qhd_X6_cat : yX6_cat.cls ≠ "java/lang/invoke/MethodHandle" ∧ yX6_cat.cls ≠ "java/lang/invoke/VarHandle" ∧ (parseMethodDescriptor yX6_cat.desc).map (fun d => d.parameters.length) = some 2 := ⟨by decide +kernel, by decide +kernel, by decide +kernel⟩
set_option maxHeartbeats 4000000 in
set_option maxRecDepth 100000 in
theorem mX6_cat {l : Launch} {D : va_G} {G : Nat → ClassId} {ad : Nat → Nat} (hJ : qInj ad) {w : qMem}   {a1 : Int32} {a2 : Int32} {rF : Int32} {wF : qMem} (hf : fX6_cat w a1 a2 = some (rF, wF)) : qCMi l D G ad yX6_cat cX6_cat 3 (some .int) 4 0 0 [.ref (ad 238), .int a1, .int a2] w rF wF := by
  refine q_start RX6 rfl (by decide +kernel) hJ (fun a b h => by simp only [qQI, qQV, qQR, h]) (Nat.le_of_ble_eq_true rfl) ?_
  intro p e s m args below meth c0 ls hC hr hR hl
  have hx := hC.1
  have hb := hC.2.1
  have hl : lv_has ls 3 [(0, .ref (ad 238)), (1, .int a1), (2, .int a2)] := hl
  unfold fX6_cat at hf
  refine lv_aload_n hx hb dX6_cat_0 rfl (lv_at hl 0 rfl) ?_
  obtain ⟨w2, hq1, hf⟩ := qbd_s hf
  refine q_callVv hC hR (mX6_keep (qJ hC) hq1) (by decide) (qsh_238 G ad _) rfl qk_1201 qk_1203 qk_18 qk_64 qk_1204 qhd_X6_keep ⟨Nat.le_of_ble_eq_true rfl, Nat.le_of_ble_eq_true rfl⟩ hl.1 rfl (Nat.le_of_ble_eq_true rfl) dX6_cat_1 ⟨Nat.zero_le _, Nat.zero_le _⟩ (fun H locs hR => ?_)
  refine lv_aload_n hx hb dX6_cat_4 rfl (lv_at hl 0 rfl) ?_
  refine lv_aload_n hx hb dX6_cat_5 rfl (lv_at hl 0 rfl) ?_
  refine lv_iconst (v := 3) hx hb dX6_cat_6 (by decide) ?_
  refine lv_iload_n hx hb dX6_cat_7 rfl (lv_at hl 1 rfl) ?_
  refine lv_iload_n hx hb dX6_cat_8 rfl (lv_at hl 2 rfl) ?_
  obtain ⟨r4, w5, hq3, hf⟩ := qbd2_s hf
  refine q_callVi hC hR (mX6_comes (qJ hC) hq3) (by decide) (qsh_238 G ad _) rfl qk_1208 qk_1210 qk_19 qk_64 qk_1211 qhd_X6_comes ⟨Nat.le_of_ble_eq_true rfl, Nat.le_of_ble_eq_true rfl⟩ hl.1 rfl (Nat.le_of_ble_eq_true rfl) dX6_cat_9 ⟨Nat.zero_le _, Nat.zero_le _⟩ (fun H locs hR => ?_)
  obtain ⟨r7, w8, hq6, hf⟩ := qbd2_s hf
  refine q_callVi hC hR (mX6_ends (qJ hC) hq6) (by decide) (qsh_238 G ad _) rfl qk_1238 qk_1240 qk_25 qk_64 qk_1241 qhd_X6_ends ⟨Nat.le_of_ble_eq_true rfl, Nat.le_of_ble_eq_true rfl⟩ hl.1 rfl (Nat.le_of_ble_eq_true rfl) dX6_cat_12 ⟨Nat.zero_le _, Nat.zero_le _⟩ (fun H locs hR => ?_)
  exact q_iret hC hR hr rfl (qso2 hf).1 (qso2 hf).2 dX6_cat_15
-- X6.doTake
def fX6_doTake (w : qMem)  (a1 : Int32) : Option (Int32 × qMem) :=
  qbd (fX6_isProp w a1) fun (r2 : Int32) =>
  if r2 = 0 then
    qbd2 (fX6_fails w 1) fun (r10 : Int32) (w11 : qMem) =>
    some (r10, w11)
  else
    qnm ((w 239 0) - 1) fun (x4 : Int32) =>
    qnm (15 + (7 * a1)) fun (x5 : Int32) =>
    if qcpy (x5 + 7) x5 (7 * (x4 - a1)) 99 99 = true then
    qnm (qur w 239 (va_cpy (w 239) (w 239) (x5 + 7).toNatClampNeg (x5).toNatClampNeg (7 * (x4 - a1)).toNatClampNeg)) fun (w7 : qMem) =>
    qnm (quw w7 239 0 x4) fun (w8 : qMem) =>
    some (x4, w8)
    else none
theorem qhd_X6_doTake : yX6_doTake.cls ≠ "java/lang/invoke/MethodHandle" ∧ yX6_doTake.cls ≠ "java/lang/invoke/VarHandle" ∧ (parseMethodDescriptor yX6_doTake.desc).map (fun d => d.parameters.length) = some 1 := ⟨by decide +kernel, by decide +kernel, by decide +kernel⟩
set_option maxHeartbeats 4000000 in
set_option maxRecDepth 100000 in
theorem mX6_doTake {l : Launch} {D : va_G} {G : Nat → ClassId} {ad : Nat → Nat} (hJ : qInj ad) {w : qMem}   {a1 : Int32} {rF : Int32} {wF : qMem} (hf : fX6_doTake w a1 = some (rF, wF)) : qCMi l D G ad yX6_doTake cX6_doTake 4 (some .int) 3 0 0 [.ref (ad 238), .int a1] w rF wF := by
  refine q_start RX6 rfl (by decide +kernel) hJ (fun a b h => by simp only [qQI, qQV, qQR, h]) (Nat.le_of_ble_eq_true rfl) ?_
  intro p e s m args below meth c0 ls hC hr hR hl
  have hx := hC.1
  have hb := hC.2.1
  have hl : lv_has ls 4 [(0, .ref (ad 238)), (1, .int a1)] := hl
  unfold fX6_doTake at hf
  refine lv_aload_n hx hb dX6_doTake_0 rfl (lv_at hl 0 rfl) ?_
  refine lv_iload_n hx hb dX6_doTake_1 rfl (lv_at hl 1 rfl) ?_
  obtain ⟨r2, hq1, hf⟩ := qbd_s hf
  refine q_callVi hC hR (mX6_isProp (qJ hC) hq1) (by decide) (qsh_238 G ad _) rfl qk_1258 qk_1260 qk_27 qk_64 qk_1261 qhd_X6_isProp ⟨Nat.le_of_ble_eq_true rfl, Nat.le_of_ble_eq_true rfl⟩ hl.1 rfl (Nat.le_of_ble_eq_true rfl) dX6_doTake_2 ⟨Nat.zero_le _, Nat.zero_le _⟩ (fun H locs hR => ?_)
  refine lv_if_ne (tgt := 14) hx hb dX6_doTake_5 (by decide) (fun c_3 => ?_) (fun c_3 => ?_)
  · have hf := qif_f hf c_3
    refine lv_aload_n hx hb dX6_doTake_14 rfl (lv_at hl 0 rfl) ?_
    refine qget_X6_0 hC hR qk_1125 dX6_doTake_15 ?_
    refine lv_iconst (v := 0) hx hb dX6_doTake_18 (by decide) ?_
    refine q_ild hC hR (j := 0) (by decide) (qsh_239 G ad _) (by decide) (by decide) dX6_doTake_19 ?_
    refine lv_iconst (v := 1) hx hb dX6_doTake_20 (by decide) ?_
    refine lv_isub hx hb dX6_doTake_21 ?_
    refine lv_topi (fun x4 ex4 => ?_)
    have hf := qnm_t hf ex4
    refine lv_istore_n (lv' := [(2, .int x4), (0, .ref (ad 238)), (1, .int a1)]) hx hb dX6_doTake_22 rfl hl (by decide) rfl (fun ls hl => ?_)
    refine lv_bipush (v := 15) hx hb dX6_doTake_23 (by decide) ?_
    refine lv_bipush (v := 7) hx hb dX6_doTake_25 (by decide) ?_
    refine lv_iload_n hx hb dX6_doTake_27 rfl (lv_at hl 2 rfl) ?_
    refine lv_imul hx hb dX6_doTake_28 ?_
    refine lv_iadd hx hb dX6_doTake_29 ?_
    refine lv_topi (fun x5 ex5 => ?_)
    have hf := qnm_t hf ex5
    refine lv_istore_n (lv' := [(3, .int x5), (2, .int x4), (0, .ref (ad 238)), (1, .int a1)]) hx hb dX6_doTake_30 rfl hl (by decide) rfl (fun ls hl => ?_)
    refine lv_aload_n hx hb dX6_doTake_31 rfl (lv_at hl 2 rfl) ?_
    refine qget_X6_0 hC hR qk_1125 dX6_doTake_32 ?_
    refine lv_iload_n hx hb dX6_doTake_35 rfl (lv_at hl 0 rfl) ?_
    refine lv_bipush (v := 7) hx hb dX6_doTake_36 (by decide) ?_
    refine lv_iadd hx hb dX6_doTake_38 ?_
    refine lv_aload_n hx hb dX6_doTake_39 rfl (lv_at hl 2 rfl) ?_
    refine qget_X6_0 hC hR qk_1125 dX6_doTake_40 ?_
    refine lv_iload_n hx hb dX6_doTake_43 rfl (lv_at hl 0 rfl) ?_
    refine lv_bipush (v := 7) hx hb dX6_doTake_44 (by decide) ?_
    refine lv_iload_n hx hb dX6_doTake_46 rfl (lv_at hl 1 rfl) ?_
    refine lv_iload_n hx hb dX6_doTake_47 rfl (lv_at hl 3 rfl) ?_
    refine lv_isub hx hb dX6_doTake_48 ?_
    refine lv_imul hx hb dX6_doTake_49 ?_
    obtain ⟨g6, hf⟩ := qgd hf
    refine q_copy hC hR (by decide) (by decide) (fun f => qsh_239 G ad f) (fun f => qsh_239 G ad f) g6 hl.1 qk_1205 dX6_doTake_50 (Nat.le_of_ble_eq_true rfl) (Nat.le_of_ble_eq_true rfl) (fun w7 H locs ew7 hR => ?_)
    have hf := qnm_t hf ew7
    refine lv_aload_n hx hb dX6_doTake_53 rfl (lv_at hl 2 rfl) ?_
    refine qget_X6_0 hC hR qk_1125 dX6_doTake_54 ?_
    refine lv_iconst (v := 0) hx hb dX6_doTake_57 (by decide) ?_
    refine lv_iload_n hx hb dX6_doTake_58 rfl (lv_at hl 1 rfl) ?_
    refine q_ist hC hR (j := 0) (by decide) (fun f => qsh_239 G ad f) (by decide) (by decide) dX6_doTake_59 (fun w8 H locs ew8 hR => ?_)
    have hf := qnm_t hf ew8
    refine lv_iload_n hx hb dX6_doTake_60 rfl (lv_at hl 1 rfl) ?_
    exact q_iret hC hR hr rfl (qso2 hf).1 (qso2 hf).2 dX6_doTake_61
  · have hf := qif_t hf c_3
    refine lv_aload_n hx hb dX6_doTake_8 rfl (lv_at hl 0 rfl) ?_
    refine lv_iconst (v := 1) hx hb dX6_doTake_9 (by decide) ?_
    obtain ⟨r10, w11, hq9, hf⟩ := qbd2_s hf
    refine q_callVi hC hR (mX6_fails (qJ hC) hq9) (by decide) (qsh_238 G ad _) rfl qk_1218 qk_1220 qk_20 qk_64 qk_1221 qhd_X6_fails ⟨Nat.le_of_ble_eq_true rfl, Nat.le_of_ble_eq_true rfl⟩ hl.1 rfl (Nat.le_of_ble_eq_true rfl) dX6_doTake_10 ⟨Nat.zero_le _, Nat.zero_le _⟩ (fun H locs hR => ?_)
    exact q_iret hC hR hr rfl (qso2 hf).1 (qso2 hf).2 dX6_doTake_13
-- X6.take
def fX6_take (w : qMem)  (a1 : Int32) : Option (Int32 × qMem) :=
  qbd (fX6_keep w) fun (w2 : qMem) =>
  qbd2 (fX6_doTake w2 a1) fun (r4 : Int32) (w5 : qMem) =>
  qbd2 (fX6_ends w5 r4) fun (r7 : Int32) (w8 : qMem) =>
  some (r7, w8)
theorem qhd_X6_take : yX6_take.cls ≠ "java/lang/invoke/MethodHandle" ∧ yX6_take.cls ≠ "java/lang/invoke/VarHandle" ∧ (parseMethodDescriptor yX6_take.desc).map (fun d => d.parameters.length) = some 1 := ⟨by decide +kernel, by decide +kernel, by decide +kernel⟩
set_option maxHeartbeats 4000000 in
set_option maxRecDepth 100000 in
theorem mX6_take {l : Launch} {D : va_G} {G : Nat → ClassId} {ad : Nat → Nat} (hJ : qInj ad) {w : qMem}   {a1 : Int32} {rF : Int32} {wF : qMem} (hf : fX6_take w a1 = some (rF, wF)) : qCMi l D G ad yX6_take cX6_take 2 (some .int) 4 0 0 [.ref (ad 238), .int a1] w rF wF := by
  refine q_start RX6 rfl (by decide +kernel) hJ (fun a b h => by simp only [qQI, qQV, qQR, h]) (Nat.le_of_ble_eq_true rfl) ?_
  intro p e s m args below meth c0 ls hC hr hR hl
  have hx := hC.1
  have hb := hC.2.1
  have hl : lv_has ls 2 [(0, .ref (ad 238)), (1, .int a1)] := hl
  unfold fX6_take at hf
  refine lv_aload_n hx hb dX6_take_0 rfl (lv_at hl 0 rfl) ?_
  obtain ⟨w2, hq1, hf⟩ := qbd_s hf
  refine q_callVv hC hR (mX6_keep (qJ hC) hq1) (by decide) (qsh_238 G ad _) rfl qk_1201 qk_1203 qk_18 qk_64 qk_1204 qhd_X6_keep ⟨Nat.le_of_ble_eq_true rfl, Nat.le_of_ble_eq_true rfl⟩ hl.1 rfl (Nat.le_of_ble_eq_true rfl) dX6_take_1 ⟨Nat.zero_le _, Nat.zero_le _⟩ (fun H locs hR => ?_)
  refine lv_aload_n hx hb dX6_take_4 rfl (lv_at hl 0 rfl) ?_
  refine lv_aload_n hx hb dX6_take_5 rfl (lv_at hl 0 rfl) ?_
  refine lv_iload_n hx hb dX6_take_6 rfl (lv_at hl 1 rfl) ?_
  obtain ⟨r4, w5, hq3, hf⟩ := qbd2_s hf
  refine q_callVi hC hR (mX6_doTake (qJ hC) hq3) (by decide) (qsh_238 G ad _) rfl qk_1254 qk_1256 qk_26 qk_64 qk_1257 qhd_X6_doTake ⟨Nat.le_of_ble_eq_true rfl, Nat.le_of_ble_eq_true rfl⟩ hl.1 rfl (Nat.le_of_ble_eq_true rfl) dX6_take_7 ⟨Nat.zero_le _, Nat.zero_le _⟩ (fun H locs hR => ?_)
  obtain ⟨r7, w8, hq6, hf⟩ := qbd2_s hf
  refine q_callVi hC hR (mX6_ends (qJ hC) hq6) (by decide) (qsh_238 G ad _) rfl qk_1238 qk_1240 qk_25 qk_64 qk_1241 qhd_X6_ends ⟨Nat.le_of_ble_eq_true rfl, Nat.le_of_ble_eq_true rfl⟩ hl.1 rfl (Nat.le_of_ble_eq_true rfl) dX6_take_10 ⟨Nat.zero_le _, Nat.zero_le _⟩ (fun H locs hR => ?_)
  exact q_iret hC hR hr rfl (qso2 hf).1 (qso2 hf).2 dX6_take_13
-- X6.doCue
def fX6_doCue (w : qMem)  (a1 : Int32) (a2 : Int32) : Option (Int32 × qMem) :=
  qbd (fX6_isProp w a1) fun (r2 : Int32) =>
  if r2 = 0 then
    qbd2 (fX6_fails w 1) fun (r35 : Int32) (w36 : qMem) =>
    some (r35, w36)
  else
    qbd (fX6_in w a2 0 9) fun (r5 : Int32) =>
    if r5 = 0 then
      qbd2 (fX6_fails w 2) fun (r32 : Int32) (w33 : qMem) =>
      some (r32, w33)
    else
      qbd (fX6_of w a1 0) fun (r8 : Int32) =>
      if r8 = 2 then
        qbd (fX6_of w a1 4) fun (r11 : Int32) =>
        if r11 = 1 then
          qbd (fX6_of w a1 3) fun (r22 : Int32) =>
          qbd2 (fX6_refuse w 3 6 r22) fun (r24 : Int32) (w25 : qMem) =>
          some (r24, w25)
        else
          qbd (fX6_of w a1 5) fun (r14 : Int32) =>
          if r14 = a2 then
            qbd2 (fX6_refuse w 3 3 a2) fun (r19 : Int32) (w20 : qMem) =>
            some (r19, w20)
          else
            qbd (fX6_sets w a1 5 a2) fun (w17 : qMem) =>
            some (r14, w17)
      else
        qbd (fX6_of w a1 1) fun (r27 : Int32) =>
        qbd2 (fX6_refuse w 3 4 r27) fun (r29 : Int32) (w30 : qMem) =>
        some (r29, w30)
theorem qhd_X6_doCue : yX6_doCue.cls ≠ "java/lang/invoke/MethodHandle" ∧ yX6_doCue.cls ≠ "java/lang/invoke/VarHandle" ∧ (parseMethodDescriptor yX6_doCue.desc).map (fun d => d.parameters.length) = some 2 := ⟨by decide +kernel, by decide +kernel, by decide +kernel⟩
set_option maxHeartbeats 4000000 in
set_option maxRecDepth 100000 in
theorem mX6_doCue {l : Launch} {D : va_G} {G : Nat → ClassId} {ad : Nat → Nat} (hJ : qInj ad) {w : qMem}   {a1 : Int32} {a2 : Int32} {rF : Int32} {wF : qMem} (hf : fX6_doCue w a1 a2 = some (rF, wF)) : qCMi l D G ad yX6_doCue cX6_doCue 4 (some .int) 3 0 0 [.ref (ad 238), .int a1, .int a2] w rF wF := by
  refine q_start RX6 rfl (by decide +kernel) hJ (fun a b h => by simp only [qQI, qQV, qQR, h]) (Nat.le_of_ble_eq_true rfl) ?_
  intro p e s m args below meth c0 ls hC hr hR hl
  have hx := hC.1
  have hb := hC.2.1
  have hl : lv_has ls 4 [(0, .ref (ad 238)), (1, .int a1), (2, .int a2)] := hl
  unfold fX6_doCue at hf
  refine lv_aload_n hx hb dX6_doCue_0 rfl (lv_at hl 0 rfl) ?_
  refine lv_iload_n hx hb dX6_doCue_1 rfl (lv_at hl 1 rfl) ?_
  obtain ⟨r2, hq1, hf⟩ := qbd_s hf
  refine q_callVi hC hR (mX6_isProp (qJ hC) hq1) (by decide) (qsh_238 G ad _) rfl qk_1258 qk_1260 qk_27 qk_64 qk_1261 qhd_X6_isProp ⟨Nat.le_of_ble_eq_true rfl, Nat.le_of_ble_eq_true rfl⟩ hl.1 rfl (Nat.le_of_ble_eq_true rfl) dX6_doCue_2 ⟨Nat.zero_le _, Nat.zero_le _⟩ (fun H locs hR => ?_)
  refine lv_if_ne (tgt := 14) hx hb dX6_doCue_5 (by decide) (fun c_3 => ?_) (fun c_3 => ?_)
  · have hf := qif_f hf c_3
    refine lv_iload_n hx hb dX6_doCue_14 rfl (lv_at hl 2 rfl) ?_
    refine lv_iconst (v := 0) hx hb dX6_doCue_15 (by decide) ?_
    refine lv_bipush (v := 9) hx hb dX6_doCue_16 (by decide) ?_
    obtain ⟨r5, hq4, hf⟩ := qbd_s hf
    refine q_callSi hC hR (mX6_in (qJ hC) hq4) qk_1215 qk_1216 qk_64 qk_1217 qhd_X6_in ⟨Nat.le_of_ble_eq_true rfl, Nat.le_of_ble_eq_true rfl⟩ hl.1 rfl (Nat.le_of_ble_eq_true rfl) dX6_doCue_18 ⟨Nat.zero_le _, Nat.zero_le _⟩ (fun H locs hR => ?_)
    refine lv_if_ne (tgt := 30) hx hb dX6_doCue_21 (by decide) (fun c_6 => ?_) (fun c_6 => ?_)
    · have hf := qif_f hf c_6
      refine lv_aload_n hx hb dX6_doCue_30 rfl (lv_at hl 0 rfl) ?_
      refine lv_iload_n hx hb dX6_doCue_31 rfl (lv_at hl 1 rfl) ?_
      refine lv_iconst (v := 0) hx hb dX6_doCue_32 (by decide) ?_
      obtain ⟨r8, hq7, hf⟩ := qbd_s hf
      refine q_callVi hC hR (mX6_of (qJ hC) hq7) (by decide) (qsh_238 G ad _) rfl qk_1230 qk_1232 qk_23 qk_64 qk_1233 qhd_X6_of ⟨Nat.le_of_ble_eq_true rfl, Nat.le_of_ble_eq_true rfl⟩ hl.1 rfl (Nat.le_of_ble_eq_true rfl) dX6_doCue_33 ⟨Nat.zero_le _, Nat.zero_le _⟩ (fun H locs hR => ?_)
      refine lv_iconst (v := 2) hx hb dX6_doCue_36 (by decide) ?_
      refine lv_icmp_eq (tgt := 53) hx hb dX6_doCue_37 (by decide) (fun c_9 => ?_) (fun c_9 => ?_)
      · have hf := qif_t hf c_9
        refine lv_aload_n hx hb dX6_doCue_53 rfl (lv_at hl 0 rfl) ?_
        refine lv_iload_n hx hb dX6_doCue_54 rfl (lv_at hl 1 rfl) ?_
        refine lv_iconst (v := 4) hx hb dX6_doCue_55 (by decide) ?_
        obtain ⟨r11, hq10, hf⟩ := qbd_s hf
        refine q_callVi hC hR (mX6_of (qJ hC) hq10) (by decide) (qsh_238 G ad _) rfl qk_1230 qk_1232 qk_23 qk_64 qk_1233 qhd_X6_of ⟨Nat.le_of_ble_eq_true rfl, Nat.le_of_ble_eq_true rfl⟩ hl.1 rfl (Nat.le_of_ble_eq_true rfl) dX6_doCue_56 ⟨Nat.zero_le _, Nat.zero_le _⟩ (fun H locs hR => ?_)
        refine lv_iconst (v := 1) hx hb dX6_doCue_59 (by decide) ?_
        refine lv_icmp_ne (tgt := 77) hx hb dX6_doCue_60 (by decide) (fun c_12 => ?_) (fun c_12 => ?_)
        · have hf := qif_f hf c_12
          refine lv_aload_n hx hb dX6_doCue_77 rfl (lv_at hl 0 rfl) ?_
          refine lv_iload_n hx hb dX6_doCue_78 rfl (lv_at hl 1 rfl) ?_
          refine lv_iconst (v := 5) hx hb dX6_doCue_79 (by decide) ?_
          obtain ⟨r14, hq13, hf⟩ := qbd_s hf
          refine q_callVi hC hR (mX6_of (qJ hC) hq13) (by decide) (qsh_238 G ad _) rfl qk_1230 qk_1232 qk_23 qk_64 qk_1233 qhd_X6_of ⟨Nat.le_of_ble_eq_true rfl, Nat.le_of_ble_eq_true rfl⟩ hl.1 rfl (Nat.le_of_ble_eq_true rfl) dX6_doCue_80 ⟨Nat.zero_le _, Nat.zero_le _⟩ (fun H locs hR => ?_)
          refine lv_istore_n (lv' := [(3, .int r14), (0, .ref (ad 238)), (1, .int a1), (2, .int a2)]) hx hb dX6_doCue_83 rfl hl (by decide) rfl (fun ls hl => ?_)
          refine lv_iload_n hx hb dX6_doCue_84 rfl (lv_at hl 0 rfl) ?_
          refine lv_iload_n hx hb dX6_doCue_85 rfl (lv_at hl 3 rfl) ?_
          refine lv_icmp_ne (tgt := 97) hx hb dX6_doCue_86 (by decide) (fun c_15 => ?_) (fun c_15 => ?_)
          · have hf := qif_f hf c_15
            refine lv_aload_n hx hb dX6_doCue_97 rfl (lv_at hl 1 rfl) ?_
            refine lv_iload_n hx hb dX6_doCue_98 rfl (lv_at hl 2 rfl) ?_
            refine lv_iconst (v := 5) hx hb dX6_doCue_99 (by decide) ?_
            refine lv_iload_n hx hb dX6_doCue_100 rfl (lv_at hl 3 rfl) ?_
            obtain ⟨w17, hq16, hf⟩ := qbd_s hf
            refine q_callVv hC hR (mX6_sets (qJ hC) hq16) (by decide) (qsh_238 G ad _) rfl qk_1234 qk_1236 qk_24 qk_64 qk_1237 qhd_X6_sets ⟨Nat.le_of_ble_eq_true rfl, Nat.le_of_ble_eq_true rfl⟩ hl.1 rfl (Nat.le_of_ble_eq_true rfl) dX6_doCue_101 ⟨Nat.zero_le _, Nat.zero_le _⟩ (fun H locs hR => ?_)
            refine lv_iload_n hx hb dX6_doCue_104 rfl (lv_at hl 0 rfl) ?_
            exact q_iret hC hR hr rfl (qso2 hf).1 (qso2 hf).2 dX6_doCue_105
          · have hf := qif_t hf c_15
            refine lv_aload_n hx hb dX6_doCue_89 rfl (lv_at hl 1 rfl) ?_
            refine lv_iconst (v := 3) hx hb dX6_doCue_90 (by decide) ?_
            refine lv_iconst (v := 3) hx hb dX6_doCue_91 (by decide) ?_
            refine lv_iload_n hx hb dX6_doCue_92 rfl (lv_at hl 3 rfl) ?_
            obtain ⟨r19, w20, hq18, hf⟩ := qbd2_s hf
            refine q_callVi hC hR (mX6_refuse (qJ hC) hq18) (by decide) (qsh_238 G ad _) rfl qk_1222 qk_1224 qk_21 qk_64 qk_1225 qhd_X6_refuse ⟨Nat.le_of_ble_eq_true rfl, Nat.le_of_ble_eq_true rfl⟩ hl.1 rfl (Nat.le_of_ble_eq_true rfl) dX6_doCue_93 ⟨Nat.zero_le _, Nat.zero_le _⟩ (fun H locs hR => ?_)
            exact q_iret hC hR hr rfl (qso2 hf).1 (qso2 hf).2 dX6_doCue_96
        · have hf := qif_t hf c_12
          refine lv_aload_n hx hb dX6_doCue_63 rfl (lv_at hl 0 rfl) ?_
          refine lv_iconst (v := 3) hx hb dX6_doCue_64 (by decide) ?_
          refine lv_bipush (v := 6) hx hb dX6_doCue_65 (by decide) ?_
          refine lv_aload_n hx hb dX6_doCue_67 rfl (lv_at hl 0 rfl) ?_
          refine lv_iload_n hx hb dX6_doCue_68 rfl (lv_at hl 1 rfl) ?_
          refine lv_iconst (v := 3) hx hb dX6_doCue_69 (by decide) ?_
          obtain ⟨r22, hq21, hf⟩ := qbd_s hf
          refine q_callVi hC hR (mX6_of (qJ hC) hq21) (by decide) (qsh_238 G ad _) rfl qk_1230 qk_1232 qk_23 qk_64 qk_1233 qhd_X6_of ⟨Nat.le_of_ble_eq_true rfl, Nat.le_of_ble_eq_true rfl⟩ hl.1 rfl (Nat.le_of_ble_eq_true rfl) dX6_doCue_70 ⟨Nat.zero_le _, Nat.zero_le _⟩ (fun H locs hR => ?_)
          obtain ⟨r24, w25, hq23, hf⟩ := qbd2_s hf
          refine q_callVi hC hR (mX6_refuse (qJ hC) hq23) (by decide) (qsh_238 G ad _) rfl qk_1222 qk_1224 qk_21 qk_64 qk_1225 qhd_X6_refuse ⟨Nat.le_of_ble_eq_true rfl, Nat.le_of_ble_eq_true rfl⟩ hl.1 rfl (Nat.le_of_ble_eq_true rfl) dX6_doCue_73 ⟨Nat.zero_le _, Nat.zero_le _⟩ (fun H locs hR => ?_)
          exact q_iret hC hR hr rfl (qso2 hf).1 (qso2 hf).2 dX6_doCue_76
      · have hf := qif_f hf c_9
        refine lv_aload_n hx hb dX6_doCue_40 rfl (lv_at hl 0 rfl) ?_
        refine lv_iconst (v := 3) hx hb dX6_doCue_41 (by decide) ?_
        refine lv_iconst (v := 4) hx hb dX6_doCue_42 (by decide) ?_
        refine lv_aload_n hx hb dX6_doCue_43 rfl (lv_at hl 0 rfl) ?_
        refine lv_iload_n hx hb dX6_doCue_44 rfl (lv_at hl 1 rfl) ?_
        refine lv_iconst (v := 1) hx hb dX6_doCue_45 (by decide) ?_
        obtain ⟨r27, hq26, hf⟩ := qbd_s hf
        refine q_callVi hC hR (mX6_of (qJ hC) hq26) (by decide) (qsh_238 G ad _) rfl qk_1230 qk_1232 qk_23 qk_64 qk_1233 qhd_X6_of ⟨Nat.le_of_ble_eq_true rfl, Nat.le_of_ble_eq_true rfl⟩ hl.1 rfl (Nat.le_of_ble_eq_true rfl) dX6_doCue_46 ⟨Nat.zero_le _, Nat.zero_le _⟩ (fun H locs hR => ?_)
        obtain ⟨r29, w30, hq28, hf⟩ := qbd2_s hf
        refine q_callVi hC hR (mX6_refuse (qJ hC) hq28) (by decide) (qsh_238 G ad _) rfl qk_1222 qk_1224 qk_21 qk_64 qk_1225 qhd_X6_refuse ⟨Nat.le_of_ble_eq_true rfl, Nat.le_of_ble_eq_true rfl⟩ hl.1 rfl (Nat.le_of_ble_eq_true rfl) dX6_doCue_49 ⟨Nat.zero_le _, Nat.zero_le _⟩ (fun H locs hR => ?_)
        exact q_iret hC hR hr rfl (qso2 hf).1 (qso2 hf).2 dX6_doCue_52
    · have hf := qif_t hf c_6
      refine lv_aload_n hx hb dX6_doCue_24 rfl (lv_at hl 0 rfl) ?_
      refine lv_iconst (v := 2) hx hb dX6_doCue_25 (by decide) ?_
      obtain ⟨r32, w33, hq31, hf⟩ := qbd2_s hf
      refine q_callVi hC hR (mX6_fails (qJ hC) hq31) (by decide) (qsh_238 G ad _) rfl qk_1218 qk_1220 qk_20 qk_64 qk_1221 qhd_X6_fails ⟨Nat.le_of_ble_eq_true rfl, Nat.le_of_ble_eq_true rfl⟩ hl.1 rfl (Nat.le_of_ble_eq_true rfl) dX6_doCue_26 ⟨Nat.zero_le _, Nat.zero_le _⟩ (fun H locs hR => ?_)
      exact q_iret hC hR hr rfl (qso2 hf).1 (qso2 hf).2 dX6_doCue_29
  · have hf := qif_t hf c_3
    refine lv_aload_n hx hb dX6_doCue_8 rfl (lv_at hl 0 rfl) ?_
    refine lv_iconst (v := 1) hx hb dX6_doCue_9 (by decide) ?_
    obtain ⟨r35, w36, hq34, hf⟩ := qbd2_s hf
    refine q_callVi hC hR (mX6_fails (qJ hC) hq34) (by decide) (qsh_238 G ad _) rfl qk_1218 qk_1220 qk_20 qk_64 qk_1221 qhd_X6_fails ⟨Nat.le_of_ble_eq_true rfl, Nat.le_of_ble_eq_true rfl⟩ hl.1 rfl (Nat.le_of_ble_eq_true rfl) dX6_doCue_10 ⟨Nat.zero_le _, Nat.zero_le _⟩ (fun H locs hR => ?_)
    exact q_iret hC hR hr rfl (qso2 hf).1 (qso2 hf).2 dX6_doCue_13
-- X6.cue
def fX6_cue (w : qMem)  (a1 : Int32) (a2 : Int32) : Option (Int32 × qMem) :=
  qbd (fX6_keep w) fun (w2 : qMem) =>
  qbd2 (fX6_doCue w2 a1 a2) fun (r4 : Int32) (w5 : qMem) =>
  qbd2 (fX6_ends w5 r4) fun (r7 : Int32) (w8 : qMem) =>
  some (r7, w8)
theorem qhd_X6_cue : yX6_cue.cls ≠ "java/lang/invoke/MethodHandle" ∧ yX6_cue.cls ≠ "java/lang/invoke/VarHandle" ∧ (parseMethodDescriptor yX6_cue.desc).map (fun d => d.parameters.length) = some 2 := ⟨by decide +kernel, by decide +kernel, by decide +kernel⟩
set_option maxHeartbeats 4000000 in
set_option maxRecDepth 100000 in
theorem mX6_cue {l : Launch} {D : va_G} {G : Nat → ClassId} {ad : Nat → Nat} (hJ : qInj ad) {w : qMem}   {a1 : Int32} {a2 : Int32} {rF : Int32} {wF : qMem} (hf : fX6_cue w a1 a2 = some (rF, wF)) : qCMi l D G ad yX6_cue cX6_cue 3 (some .int) 4 0 0 [.ref (ad 238), .int a1, .int a2] w rF wF := by
  refine q_start RX6 rfl (by decide +kernel) hJ (fun a b h => by simp only [qQI, qQV, qQR, h]) (Nat.le_of_ble_eq_true rfl) ?_
  intro p e s m args below meth c0 ls hC hr hR hl
  have hx := hC.1
  have hb := hC.2.1
  have hl : lv_has ls 3 [(0, .ref (ad 238)), (1, .int a1), (2, .int a2)] := hl
  unfold fX6_cue at hf
  refine lv_aload_n hx hb dX6_cue_0 rfl (lv_at hl 0 rfl) ?_
  obtain ⟨w2, hq1, hf⟩ := qbd_s hf
  refine q_callVv hC hR (mX6_keep (qJ hC) hq1) (by decide) (qsh_238 G ad _) rfl qk_1201 qk_1203 qk_18 qk_64 qk_1204 qhd_X6_keep ⟨Nat.le_of_ble_eq_true rfl, Nat.le_of_ble_eq_true rfl⟩ hl.1 rfl (Nat.le_of_ble_eq_true rfl) dX6_cue_1 ⟨Nat.zero_le _, Nat.zero_le _⟩ (fun H locs hR => ?_)
  refine lv_aload_n hx hb dX6_cue_4 rfl (lv_at hl 0 rfl) ?_
  refine lv_aload_n hx hb dX6_cue_5 rfl (lv_at hl 0 rfl) ?_
  refine lv_iload_n hx hb dX6_cue_6 rfl (lv_at hl 1 rfl) ?_
  refine lv_iload_n hx hb dX6_cue_7 rfl (lv_at hl 2 rfl) ?_
  obtain ⟨r4, w5, hq3, hf⟩ := qbd2_s hf
  refine q_callVi hC hR (mX6_doCue (qJ hC) hq3) (by decide) (qsh_238 G ad _) rfl qk_1266 qk_1268 qk_28 qk_64 qk_1269 qhd_X6_doCue ⟨Nat.le_of_ble_eq_true rfl, Nat.le_of_ble_eq_true rfl⟩ hl.1 rfl (Nat.le_of_ble_eq_true rfl) dX6_cue_8 ⟨Nat.zero_le _, Nat.zero_le _⟩ (fun H locs hR => ?_)
  obtain ⟨r7, w8, hq6, hf⟩ := qbd2_s hf
  refine q_callVi hC hR (mX6_ends (qJ hC) hq6) (by decide) (qsh_238 G ad _) rfl qk_1238 qk_1240 qk_25 qk_64 qk_1241 qhd_X6_ends ⟨Nat.le_of_ble_eq_true rfl, Nat.le_of_ble_eq_true rfl⟩ hl.1 rfl (Nat.le_of_ble_eq_true rfl) dX6_cue_11 ⟨Nat.zero_le _, Nat.zero_le _⟩ (fun H locs hR => ?_)
  exact q_iret hC hR hr rfl (qso2 hf).1 (qso2 hf).2 dX6_cue_14
-- X6.doSet
def fX6_doSet (w : qMem)  (a1 : Int32) : Option (Int32 × qMem) :=
  qnm (w 239 1) fun (x1 : Int32) =>
  qbd (fX6_isStrength w a1) fun (r3 : Int32) =>
  if r3 = 0 then
    qbd2 (fX6_fails w 1) fun (r11 : Int32) (w12 : qMem) =>
    some (r11, w12)
  else
    if x1 = a1 then
      qbd2 (fX6_refuse w 2 3 a1) fun (r8 : Int32) (w9 : qMem) =>
      some (r8, w9)
    else
      qnm (quw w 239 1 a1) fun (w6 : qMem) =>
      some (x1, w6)
theorem qhd_X6_doSet : yX6_doSet.cls ≠ "java/lang/invoke/MethodHandle" ∧ yX6_doSet.cls ≠ "java/lang/invoke/VarHandle" ∧ (parseMethodDescriptor yX6_doSet.desc).map (fun d => d.parameters.length) = some 1 := ⟨by decide +kernel, by decide +kernel, by decide +kernel⟩
set_option maxHeartbeats 4000000 in
set_option maxRecDepth 100000 in
theorem mX6_doSet {l : Launch} {D : va_G} {G : Nat → ClassId} {ad : Nat → Nat} (hJ : qInj ad) {w : qMem}   {a1 : Int32} {rF : Int32} {wF : qMem} (hf : fX6_doSet w a1 = some (rF, wF)) : qCMi l D G ad yX6_doSet cX6_doSet 3 (some .int) 3 0 0 [.ref (ad 238), .int a1] w rF wF := by
  refine q_start RX6 rfl (by decide +kernel) hJ (fun a b h => by simp only [qQI, qQV, qQR, h]) (Nat.le_of_ble_eq_true rfl) ?_
  intro p e s m args below meth c0 ls hC hr hR hl
  have hx := hC.1
  have hb := hC.2.1
  have hl : lv_has ls 3 [(0, .ref (ad 238)), (1, .int a1)] := hl
  unfold fX6_doSet at hf
  refine lv_aload_n hx hb dX6_doSet_0 rfl (lv_at hl 0 rfl) ?_
  refine qget_X6_0 hC hR qk_1125 dX6_doSet_1 ?_
  refine lv_iconst (v := 1) hx hb dX6_doSet_4 (by decide) ?_
  refine q_ild hC hR (j := 1) (by decide) (qsh_239 G ad _) (by decide) (by decide) dX6_doSet_5 ?_
  refine lv_topi (fun x1 ex1 => ?_)
  have hf := qnm_t hf ex1
  refine lv_istore_n (lv' := [(2, .int x1), (0, .ref (ad 238)), (1, .int a1)]) hx hb dX6_doSet_6 rfl hl (by decide) rfl (fun ls hl => ?_)
  refine lv_iload_n hx hb dX6_doSet_7 rfl (lv_at hl 2 rfl) ?_
  obtain ⟨r3, hq2, hf⟩ := qbd_s hf
  refine q_callSi hC hR (mX6_isStrength (qJ hC) hq2) qk_1278 qk_1279 qk_64 qk_1280 qhd_X6_isStrength ⟨Nat.le_of_ble_eq_true rfl, Nat.le_of_ble_eq_true rfl⟩ hl.1 rfl (Nat.le_of_ble_eq_true rfl) dX6_doSet_8 ⟨Nat.zero_le _, Nat.zero_le _⟩ (fun H locs hR => ?_)
  refine lv_if_ne (tgt := 20) hx hb dX6_doSet_11 (by decide) (fun c_4 => ?_) (fun c_4 => ?_)
  · have hf := qif_f hf c_4
    refine lv_iload_n hx hb dX6_doSet_20 rfl (lv_at hl 0 rfl) ?_
    refine lv_iload_n hx hb dX6_doSet_21 rfl (lv_at hl 2 rfl) ?_
    refine lv_icmp_ne (tgt := 33) hx hb dX6_doSet_22 (by decide) (fun c_5 => ?_) (fun c_5 => ?_)
    · have hf := qif_f hf c_5
      refine lv_aload_n hx hb dX6_doSet_33 rfl (lv_at hl 1 rfl) ?_
      refine qget_X6_0 hC hR qk_1125 dX6_doSet_34 ?_
      refine lv_iconst (v := 1) hx hb dX6_doSet_37 (by decide) ?_
      refine lv_iload_n hx hb dX6_doSet_38 rfl (lv_at hl 2 rfl) ?_
      refine q_ist hC hR (j := 1) (by decide) (fun f => qsh_239 G ad f) (by decide) (by decide) dX6_doSet_39 (fun w6 H locs ew6 hR => ?_)
      have hf := qnm_t hf ew6
      refine lv_iload_n hx hb dX6_doSet_40 rfl (lv_at hl 0 rfl) ?_
      exact q_iret hC hR hr rfl (qso2 hf).1 (qso2 hf).2 dX6_doSet_41
    · have hf := qif_t hf c_5
      refine lv_aload_n hx hb dX6_doSet_25 rfl (lv_at hl 1 rfl) ?_
      refine lv_iconst (v := 2) hx hb dX6_doSet_26 (by decide) ?_
      refine lv_iconst (v := 3) hx hb dX6_doSet_27 (by decide) ?_
      refine lv_iload_n hx hb dX6_doSet_28 rfl (lv_at hl 2 rfl) ?_
      obtain ⟨r8, w9, hq7, hf⟩ := qbd2_s hf
      refine q_callVi hC hR (mX6_refuse (qJ hC) hq7) (by decide) (qsh_238 G ad _) rfl qk_1222 qk_1224 qk_21 qk_64 qk_1225 qhd_X6_refuse ⟨Nat.le_of_ble_eq_true rfl, Nat.le_of_ble_eq_true rfl⟩ hl.1 rfl (Nat.le_of_ble_eq_true rfl) dX6_doSet_29 ⟨Nat.zero_le _, Nat.zero_le _⟩ (fun H locs hR => ?_)
      exact q_iret hC hR hr rfl (qso2 hf).1 (qso2 hf).2 dX6_doSet_32
  · have hf := qif_t hf c_4
    refine lv_aload_n hx hb dX6_doSet_14 rfl (lv_at hl 1 rfl) ?_
    refine lv_iconst (v := 1) hx hb dX6_doSet_15 (by decide) ?_
    obtain ⟨r11, w12, hq10, hf⟩ := qbd2_s hf
    refine q_callVi hC hR (mX6_fails (qJ hC) hq10) (by decide) (qsh_238 G ad _) rfl qk_1218 qk_1220 qk_20 qk_64 qk_1221 qhd_X6_fails ⟨Nat.le_of_ble_eq_true rfl, Nat.le_of_ble_eq_true rfl⟩ hl.1 rfl (Nat.le_of_ble_eq_true rfl) dX6_doSet_16 ⟨Nat.zero_le _, Nat.zero_le _⟩ (fun H locs hR => ?_)
    exact q_iret hC hR hr rfl (qso2 hf).1 (qso2 hf).2 dX6_doSet_19
-- X6.set
def fX6_set (w : qMem)  (a1 : Int32) : Option (Int32 × qMem) :=
  qbd (fX6_keep w) fun (w2 : qMem) =>
  qbd2 (fX6_doSet w2 a1) fun (r4 : Int32) (w5 : qMem) =>
  qbd2 (fX6_ends w5 r4) fun (r7 : Int32) (w8 : qMem) =>
  some (r7, w8)
theorem qhd_X6_set : yX6_set.cls ≠ "java/lang/invoke/MethodHandle" ∧ yX6_set.cls ≠ "java/lang/invoke/VarHandle" ∧ (parseMethodDescriptor yX6_set.desc).map (fun d => d.parameters.length) = some 1 := ⟨by decide +kernel, by decide +kernel, by decide +kernel⟩
set_option maxHeartbeats 4000000 in
set_option maxRecDepth 100000 in
theorem mX6_set {l : Launch} {D : va_G} {G : Nat → ClassId} {ad : Nat → Nat} (hJ : qInj ad) {w : qMem}   {a1 : Int32} {rF : Int32} {wF : qMem} (hf : fX6_set w a1 = some (rF, wF)) : qCMi l D G ad yX6_set cX6_set 2 (some .int) 4 0 0 [.ref (ad 238), .int a1] w rF wF := by
  refine q_start RX6 rfl (by decide +kernel) hJ (fun a b h => by simp only [qQI, qQV, qQR, h]) (Nat.le_of_ble_eq_true rfl) ?_
  intro p e s m args below meth c0 ls hC hr hR hl
  have hx := hC.1
  have hb := hC.2.1
  have hl : lv_has ls 2 [(0, .ref (ad 238)), (1, .int a1)] := hl
  unfold fX6_set at hf
  refine lv_aload_n hx hb dX6_set_0 rfl (lv_at hl 0 rfl) ?_
  obtain ⟨w2, hq1, hf⟩ := qbd_s hf
  refine q_callVv hC hR (mX6_keep (qJ hC) hq1) (by decide) (qsh_238 G ad _) rfl qk_1201 qk_1203 qk_18 qk_64 qk_1204 qhd_X6_keep ⟨Nat.le_of_ble_eq_true rfl, Nat.le_of_ble_eq_true rfl⟩ hl.1 rfl (Nat.le_of_ble_eq_true rfl) dX6_set_1 ⟨Nat.zero_le _, Nat.zero_le _⟩ (fun H locs hR => ?_)
  refine lv_aload_n hx hb dX6_set_4 rfl (lv_at hl 0 rfl) ?_
  refine lv_aload_n hx hb dX6_set_5 rfl (lv_at hl 0 rfl) ?_
  refine lv_iload_n hx hb dX6_set_6 rfl (lv_at hl 1 rfl) ?_
  obtain ⟨r4, w5, hq3, hf⟩ := qbd2_s hf
  refine q_callVi hC hR (mX6_doSet (qJ hC) hq3) (by decide) (qsh_238 G ad _) rfl qk_1274 qk_1276 qk_29 qk_64 qk_1277 qhd_X6_doSet ⟨Nat.le_of_ble_eq_true rfl, Nat.le_of_ble_eq_true rfl⟩ hl.1 rfl (Nat.le_of_ble_eq_true rfl) dX6_set_7 ⟨Nat.zero_le _, Nat.zero_le _⟩ (fun H locs hR => ?_)
  obtain ⟨r7, w8, hq6, hf⟩ := qbd2_s hf
  refine q_callVi hC hR (mX6_ends (qJ hC) hq6) (by decide) (qsh_238 G ad _) rfl qk_1238 qk_1240 qk_25 qk_64 qk_1241 qhd_X6_ends ⟨Nat.le_of_ble_eq_true rfl, Nat.le_of_ble_eq_true rfl⟩ hl.1 rfl (Nat.le_of_ble_eq_true rfl) dX6_set_10 ⟨Nat.zero_le _, Nat.zero_le _⟩ (fun H locs hR => ?_)
  exact q_iret hC hR hr rfl (qso2 hf).1 (qso2 hf).2 dX6_set_13
-- X6.strengthOn
def fX6_strengthOn_L5 (w : qMem)   : Nat → Int32 → Int32 → Int32 → Option (Int32)
  | 0, _, _, _ => none
  | n + 1, x2, x3, x4 =>
    if x2 ≤ x4 then
      qnm (if 0 < x3 then x3 else 0) fun (x2 : Int32) =>
      some (x2)
    else
      qbd (fX6_there w 3 x4) fun (r4 : Int32) =>
      if r4 ≤ 0 then
        qnm (x3 - 1) fun (x6 : Int32) =>
        qnm (x4 + 1) fun (x7 : Int32) =>
        fX6_strengthOn_L5 w n x2 x6 x7
      else
        qnm (x3 - 2) fun (x8 : Int32) =>
        qnm (x4 + 1) fun (x9 : Int32) =>
        fX6_strengthOn_L5 w n x2 x8 x9
set_option maxHeartbeats 4000000 in
set_option maxRecDepth 100000 in
theorem mX6_strengthOn_L5 {p : Program} {l : Launch} {e : Env} {s : State} {m : MethodId} {args : Array Value} {below : List Frame} {meth : Method} {c0 : Code} {D : va_G} {G : Nat → ClassId} {ad : Nat → Nat} {w : qMem}   {rF : Int32}  (hC : qCx p c0 cX6_strengthOn 5 s m args meth RX6 D G ad) (hr : meth.sig.returnType = some .int)  : ∀ (n : Nat), ∀ (x2 : Int32) (x3 : Int32) (x4 : Int32) (H : Heap) (locs : List Loc) (ls : Array Slot), fX6_strengthOn_L5 w n x2 x3 x4 = some rF → qRp D G ad s w H locs → lv_has ls 5 [(0, .ref (ad 238)), (2, .int x2), (3, .int x3), (4, .int x4)] → W p l e (qrm 3 0 0) s m args below meth c0 H locs 0 0 (MQ below (qQI D G ad s w rF) args s 0 0 (qAdr ad s.heap.size)) (F0 m 5 ls []) := by
  have hx := hC.1
  have hb := hC.2.1
  intro n
  induction n with
  | zero => intro x2 x3 x4 H locs ls hf; exact nomatch (show (none : Option (Int32)) = some _ from hf)
  | succ n ih =>
    intro x2 x3 x4 H locs ls hf hR hl
    rw [fX6_strengthOn_L5] at hf
    refine lv_iload hx hb dX6_strengthOn_5 (lv_at hl 3 rfl) ?_
    refine lv_iload_n hx hb dX6_strengthOn_7 rfl (lv_at hl 1 rfl) ?_
    refine lv_icmp_ge (tgt := 35) hx hb dX6_strengthOn_8 (by decide) (fun c_1 => ?_) (fun c_1 => ?_)
    · have hf := qif_t hf c_1
      refine lv_iconst (v := 0) hx hb dX6_strengthOn_35 (by decide) ?_
      refine lv_iload_n hx hb dX6_strengthOn_36 rfl (lv_at hl 2 rfl) ?_
      refine va_mmax hx hb (hC.2.2.1.trans hl.1.symm) hC.2.2.2.1 (hC.2.2.2.2.1 _ qk_1293) (hC.2.2.2.2.1 _ qk_1294) (hC.2.2.2.2.1 _ qk_65) (hC.2.2.2.2.1 _ qk_1295) (Nat.le_of_ble_eq_true rfl) (Nat.le_of_ble_eq_true rfl) (Nat.zero_le _) (Nat.zero_le _) dX6_strengthOn_37 ?_
      refine lv_topi (fun x2 ex2 => ?_)
      have hf := qnm_t hf ex2
      exact q_iret hC hR hr rfl (qso hf) rfl dX6_strengthOn_40
    · have hf := qif_f hf c_1
      refine lv_iload_n hx hb dX6_strengthOn_11 rfl (lv_at hl 2 rfl) ?_
      refine lv_aload_n hx hb dX6_strengthOn_12 rfl (lv_at hl 0 rfl) ?_
      refine lv_iconst (v := 3) hx hb dX6_strengthOn_13 (by decide) ?_
      refine lv_iload hx hb dX6_strengthOn_14 (lv_at hl 3 rfl) ?_
      obtain ⟨r4, hq3, hf⟩ := qbd_s hf
      refine q_callVi hC hR (mX6_there (qJ hC) hq3) (by decide) (qsh_238 G ad _) rfl qk_1226 qk_1228 qk_22 qk_64 qk_1229 qhd_X6_there ⟨Nat.le_of_ble_eq_true rfl, Nat.le_of_ble_eq_true rfl⟩ hl.1 rfl (Nat.le_of_ble_eq_true rfl) dX6_strengthOn_16 ⟨Nat.zero_le _, Nat.zero_le _⟩ (fun H locs hR => ?_)
      refine lv_if_le (tgt := 26) hx hb dX6_strengthOn_19 (by decide) (fun c_5 => ?_) (fun c_5 => ?_)
      · have hf := qif_t hf c_5
        refine lv_iconst (v := 1) hx hb dX6_strengthOn_26 (by decide) ?_
        refine lv_isub hx hb dX6_strengthOn_27 ?_
        refine lv_topi (fun x6 ex6 => ?_)
        have hf := qnm_t hf ex6
        refine lv_istore_n (lv' := [(3, .int x6), (0, .ref (ad 238)), (2, .int x2), (4, .int x4)]) hx hb dX6_strengthOn_28 rfl hl (by decide) rfl (fun ls hl => ?_)
        obtain ⟨x7, ex7⟩ : ∃ y : Int32, y = x4 + 1 := ⟨_, rfl⟩
        have hf := qnm_t hf ex7
        refine lv_iinc (v := x7) (lv' := [(4, .int x7), (3, .int x6), (0, .ref (ad 238)), (2, .int x2)]) hx hb dX6_strengthOn_29 hl (k := 3) rfl (by rw [ex7]; rfl) (by decide) rfl (fun ls hl => ?_)
        refine lv_goto (tgt := 5) hx hb dX6_strengthOn_32 (by decide) ?_
        exact ih _ _ _ _ _ _ hf hR (lv_sub hl [2, 3, 1, 0] rfl)
      · have hf := qif_f hf c_5
        refine lv_iconst (v := 2) hx hb dX6_strengthOn_22 (by decide) ?_
        refine lv_goto (tgt := 27) hx hb dX6_strengthOn_23 (by decide) ?_
        refine lv_isub hx hb dX6_strengthOn_27 ?_
        refine lv_topi (fun x8 ex8 => ?_)
        have hf := qnm_t hf ex8
        refine lv_istore_n (lv' := [(3, .int x8), (0, .ref (ad 238)), (2, .int x2), (4, .int x4)]) hx hb dX6_strengthOn_28 rfl hl (by decide) rfl (fun ls hl => ?_)
        obtain ⟨x9, ex9⟩ : ∃ y : Int32, y = x4 + 1 := ⟨_, rfl⟩
        have hf := qnm_t hf ex9
        refine lv_iinc (v := x9) (lv' := [(4, .int x9), (3, .int x8), (0, .ref (ad 238)), (2, .int x2)]) hx hb dX6_strengthOn_29 hl (k := 3) rfl (by rw [ex9]; rfl) (by decide) rfl (fun ls hl => ?_)
        refine lv_goto (tgt := 5) hx hb dX6_strengthOn_32 (by decide) ?_
        exact ih _ _ _ _ _ _ hf hR (lv_sub hl [2, 3, 1, 0] rfl)
def fX6_strengthOn (w : qMem)  (a1 : Int32) (a2 : Int32) : Option (Int32) :=
  fX6_strengthOn_L5 w 100 a2 a1 0
theorem qhd_X6_strengthOn : yX6_strengthOn.cls ≠ "java/lang/invoke/MethodHandle" ∧ yX6_strengthOn.cls ≠ "java/lang/invoke/VarHandle" ∧ (parseMethodDescriptor yX6_strengthOn.desc).map (fun d => d.parameters.length) = some 2 := ⟨by decide +kernel, by decide +kernel, by decide +kernel⟩
set_option maxHeartbeats 4000000 in
set_option maxRecDepth 100000 in
theorem mX6_strengthOn {l : Launch} {D : va_G} {G : Nat → ClassId} {ad : Nat → Nat} (hJ : qInj ad) {w : qMem}   {a1 : Int32} {a2 : Int32} {rF : Int32} (hf : fX6_strengthOn w a1 a2 = some rF) : qCMi l D G ad yX6_strengthOn cX6_strengthOn 5 (some .int) 3 0 0 [.ref (ad 238), .int a1, .int a2] w rF w := by
  refine q_start RX6 rfl (by decide +kernel) hJ (fun a b h => by simp only [qQI, qQV, qQR, h]) (Nat.le_of_ble_eq_true rfl) ?_
  intro p e s m args below meth c0 ls hC hr hR hl
  have hx := hC.1
  have hb := hC.2.1
  have hl : lv_has ls 5 [(0, .ref (ad 238)), (1, .int a1), (2, .int a2)] := hl
  unfold fX6_strengthOn at hf
  refine lv_iload_n hx hb dX6_strengthOn_0 rfl (lv_at hl 1 rfl) ?_
  refine lv_istore_n (lv' := [(3, .int a1), (0, .ref (ad 238)), (1, .int a1), (2, .int a2)]) hx hb dX6_strengthOn_1 rfl hl (by decide) rfl (fun ls hl => ?_)
  refine lv_iconst (v := 0) hx hb dX6_strengthOn_2 (by decide) ?_
  refine lv_istore (lv' := [(4, .int 0), (3, .int a1), (0, .ref (ad 238)), (1, .int a1), (2, .int a2)]) hx hb dX6_strengthOn_3 hl (by decide) rfl (fun ls hl => ?_)
  exact mX6_strengthOn_L5 hC hr 100 _ _ _ _ _ _ hf hR (lv_sub hl [2, 4, 1, 0] rfl)
-- X6.shakes
def fX6_shakes_L69   (w : qMem) (x1 : Int32) (s0 : Int32) (s1 : Int32) (s2 : Int32) : Option (Int32 × qMem) :=
  qbd (fX6_sets w s2 s1 s0) fun (w29 : qMem) =>
  qbd (fX6_of w29 x1 4) fun (r31 : Int32) =>
  if r31 = 1 then
    some (1, w29)
  else
    some (0, w29)
set_option maxHeartbeats 4000000 in
set_option maxRecDepth 100000 in
theorem mX6_shakes_L69 {p : Program} {l : Launch} {e : Env} {s : State} {m : MethodId} {args : Array Value} {below : List Frame} {meth : Method} {c0 : Code} {D : va_G} {G : Nat → ClassId} {ad : Nat → Nat}   {rF : Int32} {wF : qMem}  (hC : qCx p c0 cX6_shakes 4 s m args meth RX6 D G ad) (hr : meth.sig.returnType = some .boolean)  : ∀ (w : qMem) (x1 : Int32) (s0 : Int32) (s1 : Int32) (s2 : Int32) (H : Heap) (locs : List Loc) (ls : Array Slot), fX6_shakes_L69 w x1 s0 s1 s2 = some (rF, wF) → qRp D G ad s w H locs → lv_has ls 4 [(0, .ref (ad 238)), (1, .int x1)] → W p l e (qrm 2 0 0) s m args below meth c0 H locs 0 0 (MQ below (qQI D G ad s wF rF) args s 0 0 (qAdr ad s.heap.size)) (F0 m 69 ls [.int s0, .int s1, .int s2, .ref (ad 238)]) := by
  have hx := hC.1
  have hb := hC.2.1
  intro w x1 s0 s1 s2 H locs ls hf hR hl
  unfold fX6_shakes_L69 at hf
  obtain ⟨w29, hq28, hf⟩ := qbd_s hf
  refine q_callVv hC hR (mX6_sets (qJ hC) hq28) (by decide) (qsh_238 G ad _) rfl qk_1234 qk_1236 qk_24 qk_64 qk_1237 qhd_X6_sets ⟨Nat.le_of_ble_eq_true rfl, Nat.le_of_ble_eq_true rfl⟩ hl.1 rfl (Nat.le_of_ble_eq_true rfl) dX6_shakes_69 ⟨Nat.zero_le _, Nat.zero_le _⟩ (fun H locs hR => ?_)
  refine lv_goto (tgt := 98) hx hb dX6_shakes_72 (by decide) ?_
  refine lv_aload_n hx hb dX6_shakes_98 rfl (lv_at hl 0 rfl) ?_
  refine lv_iload_n hx hb dX6_shakes_99 rfl (lv_at hl 1 rfl) ?_
  refine lv_iconst (v := 4) hx hb dX6_shakes_100 (by decide) ?_
  obtain ⟨r31, hq30, hf⟩ := qbd_s hf
  refine q_callVi hC hR (mX6_of (qJ hC) hq30) (by decide) (qsh_238 G ad _) rfl qk_1230 qk_1232 qk_23 qk_64 qk_1233 qhd_X6_of ⟨Nat.le_of_ble_eq_true rfl, Nat.le_of_ble_eq_true rfl⟩ hl.1 rfl (Nat.le_of_ble_eq_true rfl) dX6_shakes_101 ⟨Nat.zero_le _, Nat.zero_le _⟩ (fun H locs hR => ?_)
  refine lv_iconst (v := 1) hx hb dX6_shakes_104 (by decide) ?_
  refine lv_icmp_ne (tgt := 112) hx hb dX6_shakes_105 (by decide) (fun c_32 => ?_) (fun c_32 => ?_)
  · have hf := qif_f hf c_32
    refine lv_iconst (v := 0) hx hb dX6_shakes_112 (by decide) ?_
    exact q_iret hC hR hr (by decide) (qso2 hf).1 (qso2 hf).2 dX6_shakes_113
  · have hf := qif_t hf c_32
    refine lv_iconst (v := 1) hx hb dX6_shakes_108 (by decide) ?_
    refine lv_goto (tgt := 113) hx hb dX6_shakes_109 (by decide) ?_
    exact q_iret hC hR hr (by decide) (qso2 hf).1 (qso2 hf).2 dX6_shakes_113
def fX6_shakes (w : qMem)  (a1 : Int32) (a2 : Int32) : Option (Int32 × qMem) :=
  qbd (fX6_of w a1 2) fun (r2 : Int32) =>
  qbd (fX6_of w a1 4) fun (r4 : Int32) =>
  if r4 = 1 then
    some (0, w)
  else
    if a2 < r2 then
      if 2 * a2 < r2 then
        qbd (fX6_of w a1 4) fun (r9 : Int32) =>
        if r9 = 1 then
          some (1, w)
        else
          some (0, w)
      else
        qbd (fX6_of w a1 6) fun (r12 : Int32) =>
        qbd (fX6_sets w a1 6 (r12 + 1)) fun (w14 : qMem) =>
        qbd (fX6_of w14 a1 4) fun (r16 : Int32) =>
        if r16 = 1 then
          some (1, w14)
        else
          some (0, w14)
    else
      qbd (fX6_of w a1 3) fun (r19 : Int32) =>
      qbd (fX6_sets w a1 3 (r19 + 1)) fun (w21 : qMem) =>
      qnm (if 1 < r2 - 1 then r2 - 1 else 1) fun (x22 : Int32) =>
      qbd (fX6_sets w21 a1 2 x22) fun (w24 : qMem) =>
      qbd (fX6_of w24 a1 3) fun (r26 : Int32) =>
      if r26 = 3 then
        fX6_shakes_L69 w24 a1 1 4 a1
      else
        fX6_shakes_L69 w24 a1 0 4 a1
theorem qhd_X6_shakes : yX6_shakes.cls ≠ "java/lang/invoke/MethodHandle" ∧ yX6_shakes.cls ≠ "java/lang/invoke/VarHandle" ∧ (parseMethodDescriptor yX6_shakes.desc).map (fun d => d.parameters.length) = some 2 := ⟨by decide +kernel, by decide +kernel, by decide +kernel⟩
set_option maxHeartbeats 4000000 in
set_option maxRecDepth 100000 in
theorem mX6_shakes {l : Launch} {D : va_G} {G : Nat → ClassId} {ad : Nat → Nat} (hJ : qInj ad) {w : qMem}   {a1 : Int32} {a2 : Int32} {rF : Int32} {wF : qMem} (hf : fX6_shakes w a1 a2 = some (rF, wF)) : qCMi l D G ad yX6_shakes cX6_shakes 4 (some .boolean) 2 0 0 [.ref (ad 238), .int a1, .int a2] w rF wF := by
  refine q_start RX6 rfl (by decide +kernel) hJ (fun a b h => by simp only [qQI, qQV, qQR, h]) (Nat.le_of_ble_eq_true rfl) ?_
  intro p e s m args below meth c0 ls hC hr hR hl
  have hx := hC.1
  have hb := hC.2.1
  have hl : lv_has ls 4 [(0, .ref (ad 238)), (1, .int a1), (2, .int a2)] := hl
  unfold fX6_shakes at hf
  refine lv_aload_n hx hb dX6_shakes_0 rfl (lv_at hl 0 rfl) ?_
  refine lv_iload_n hx hb dX6_shakes_1 rfl (lv_at hl 1 rfl) ?_
  refine lv_iconst (v := 2) hx hb dX6_shakes_2 (by decide) ?_
  obtain ⟨r2, hq1, hf⟩ := qbd_s hf
  refine q_callVi hC hR (mX6_of (qJ hC) hq1) (by decide) (qsh_238 G ad _) rfl qk_1230 qk_1232 qk_23 qk_64 qk_1233 qhd_X6_of ⟨Nat.le_of_ble_eq_true rfl, Nat.le_of_ble_eq_true rfl⟩ hl.1 rfl (Nat.le_of_ble_eq_true rfl) dX6_shakes_3 ⟨Nat.zero_le _, Nat.zero_le _⟩ (fun H locs hR => ?_)
  refine lv_istore_n (lv' := [(3, .int r2), (0, .ref (ad 238)), (1, .int a1), (2, .int a2)]) hx hb dX6_shakes_6 rfl hl (by decide) rfl (fun ls hl => ?_)
  refine lv_aload_n hx hb dX6_shakes_7 rfl (lv_at hl 1 rfl) ?_
  refine lv_iload_n hx hb dX6_shakes_8 rfl (lv_at hl 2 rfl) ?_
  refine lv_iconst (v := 4) hx hb dX6_shakes_9 (by decide) ?_
  obtain ⟨r4, hq3, hf⟩ := qbd_s hf
  refine q_callVi hC hR (mX6_of (qJ hC) hq3) (by decide) (qsh_238 G ad _) rfl qk_1230 qk_1232 qk_23 qk_64 qk_1233 qhd_X6_of ⟨Nat.le_of_ble_eq_true rfl, Nat.le_of_ble_eq_true rfl⟩ hl.1 rfl (Nat.le_of_ble_eq_true rfl) dX6_shakes_10 ⟨Nat.zero_le _, Nat.zero_le _⟩ (fun H locs hR => ?_)
  refine lv_iconst (v := 1) hx hb dX6_shakes_13 (by decide) ?_
  refine lv_icmp_ne (tgt := 19) hx hb dX6_shakes_14 (by decide) (fun c_5 => ?_) (fun c_5 => ?_)
  · have hf := qif_f hf c_5
    refine lv_iload_n hx hb dX6_shakes_19 rfl (lv_at hl 3 rfl) ?_
    refine lv_iload_n hx hb dX6_shakes_20 rfl (lv_at hl 0 rfl) ?_
    refine lv_icmp_lt (tgt := 75) hx hb dX6_shakes_21 (by decide) (fun c_6 => ?_) (fun c_6 => ?_)
    · have hf := qif_t hf c_6
      refine lv_iconst (v := 2) hx hb dX6_shakes_75 (by decide) ?_
      refine lv_iload_n hx hb dX6_shakes_76 rfl (lv_at hl 3 rfl) ?_
      refine lv_imul hx hb dX6_shakes_77 ?_
      refine lv_iload_n hx hb dX6_shakes_78 rfl (lv_at hl 0 rfl) ?_
      refine lv_icmp_lt (tgt := 98) hx hb dX6_shakes_79 (by decide) (fun c_7 => ?_) (fun c_7 => ?_)
      · have hf := qif_t hf c_7
        refine lv_aload_n hx hb dX6_shakes_98 rfl (lv_at hl 1 rfl) ?_
        refine lv_iload_n hx hb dX6_shakes_99 rfl (lv_at hl 2 rfl) ?_
        refine lv_iconst (v := 4) hx hb dX6_shakes_100 (by decide) ?_
        obtain ⟨r9, hq8, hf⟩ := qbd_s hf
        refine q_callVi hC hR (mX6_of (qJ hC) hq8) (by decide) (qsh_238 G ad _) rfl qk_1230 qk_1232 qk_23 qk_64 qk_1233 qhd_X6_of ⟨Nat.le_of_ble_eq_true rfl, Nat.le_of_ble_eq_true rfl⟩ hl.1 rfl (Nat.le_of_ble_eq_true rfl) dX6_shakes_101 ⟨Nat.zero_le _, Nat.zero_le _⟩ (fun H locs hR => ?_)
        refine lv_iconst (v := 1) hx hb dX6_shakes_104 (by decide) ?_
        refine lv_icmp_ne (tgt := 112) hx hb dX6_shakes_105 (by decide) (fun c_10 => ?_) (fun c_10 => ?_)
        · have hf := qif_f hf c_10
          refine lv_iconst (v := 0) hx hb dX6_shakes_112 (by decide) ?_
          exact q_iret hC hR hr (by decide) (qso2 hf).1 (qso2 hf).2 dX6_shakes_113
        · have hf := qif_t hf c_10
          refine lv_iconst (v := 1) hx hb dX6_shakes_108 (by decide) ?_
          refine lv_goto (tgt := 113) hx hb dX6_shakes_109 (by decide) ?_
          exact q_iret hC hR hr (by decide) (qso2 hf).1 (qso2 hf).2 dX6_shakes_113
      · have hf := qif_f hf c_7
        refine lv_aload_n hx hb dX6_shakes_82 rfl (lv_at hl 1 rfl) ?_
        refine lv_iload_n hx hb dX6_shakes_83 rfl (lv_at hl 2 rfl) ?_
        refine lv_bipush (v := 6) hx hb dX6_shakes_84 (by decide) ?_
        refine lv_aload_n hx hb dX6_shakes_86 rfl (lv_at hl 1 rfl) ?_
        refine lv_iload_n hx hb dX6_shakes_87 rfl (lv_at hl 2 rfl) ?_
        refine lv_bipush (v := 6) hx hb dX6_shakes_88 (by decide) ?_
        obtain ⟨r12, hq11, hf⟩ := qbd_s hf
        refine q_callVi hC hR (mX6_of (qJ hC) hq11) (by decide) (qsh_238 G ad _) rfl qk_1230 qk_1232 qk_23 qk_64 qk_1233 qhd_X6_of ⟨Nat.le_of_ble_eq_true rfl, Nat.le_of_ble_eq_true rfl⟩ hl.1 rfl (Nat.le_of_ble_eq_true rfl) dX6_shakes_90 ⟨Nat.zero_le _, Nat.zero_le _⟩ (fun H locs hR => ?_)
        refine lv_iconst (v := 1) hx hb dX6_shakes_93 (by decide) ?_
        refine lv_iadd hx hb dX6_shakes_94 ?_
        obtain ⟨w14, hq13, hf⟩ := qbd_s hf
        refine q_callVv hC hR (mX6_sets (qJ hC) hq13) (by decide) (qsh_238 G ad _) rfl qk_1234 qk_1236 qk_24 qk_64 qk_1237 qhd_X6_sets ⟨Nat.le_of_ble_eq_true rfl, Nat.le_of_ble_eq_true rfl⟩ hl.1 rfl (Nat.le_of_ble_eq_true rfl) dX6_shakes_95 ⟨Nat.zero_le _, Nat.zero_le _⟩ (fun H locs hR => ?_)
        refine lv_aload_n hx hb dX6_shakes_98 rfl (lv_at hl 1 rfl) ?_
        refine lv_iload_n hx hb dX6_shakes_99 rfl (lv_at hl 2 rfl) ?_
        refine lv_iconst (v := 4) hx hb dX6_shakes_100 (by decide) ?_
        obtain ⟨r16, hq15, hf⟩ := qbd_s hf
        refine q_callVi hC hR (mX6_of (qJ hC) hq15) (by decide) (qsh_238 G ad _) rfl qk_1230 qk_1232 qk_23 qk_64 qk_1233 qhd_X6_of ⟨Nat.le_of_ble_eq_true rfl, Nat.le_of_ble_eq_true rfl⟩ hl.1 rfl (Nat.le_of_ble_eq_true rfl) dX6_shakes_101 ⟨Nat.zero_le _, Nat.zero_le _⟩ (fun H locs hR => ?_)
        refine lv_iconst (v := 1) hx hb dX6_shakes_104 (by decide) ?_
        refine lv_icmp_ne (tgt := 112) hx hb dX6_shakes_105 (by decide) (fun c_17 => ?_) (fun c_17 => ?_)
        · have hf := qif_f hf c_17
          refine lv_iconst (v := 0) hx hb dX6_shakes_112 (by decide) ?_
          exact q_iret hC hR hr (by decide) (qso2 hf).1 (qso2 hf).2 dX6_shakes_113
        · have hf := qif_t hf c_17
          refine lv_iconst (v := 1) hx hb dX6_shakes_108 (by decide) ?_
          refine lv_goto (tgt := 113) hx hb dX6_shakes_109 (by decide) ?_
          exact q_iret hC hR hr (by decide) (qso2 hf).1 (qso2 hf).2 dX6_shakes_113
    · have hf := qif_f hf c_6
      refine lv_aload_n hx hb dX6_shakes_24 rfl (lv_at hl 1 rfl) ?_
      refine lv_iload_n hx hb dX6_shakes_25 rfl (lv_at hl 2 rfl) ?_
      refine lv_iconst (v := 3) hx hb dX6_shakes_26 (by decide) ?_
      refine lv_aload_n hx hb dX6_shakes_27 rfl (lv_at hl 1 rfl) ?_
      refine lv_iload_n hx hb dX6_shakes_28 rfl (lv_at hl 2 rfl) ?_
      refine lv_iconst (v := 3) hx hb dX6_shakes_29 (by decide) ?_
      obtain ⟨r19, hq18, hf⟩ := qbd_s hf
      refine q_callVi hC hR (mX6_of (qJ hC) hq18) (by decide) (qsh_238 G ad _) rfl qk_1230 qk_1232 qk_23 qk_64 qk_1233 qhd_X6_of ⟨Nat.le_of_ble_eq_true rfl, Nat.le_of_ble_eq_true rfl⟩ hl.1 rfl (Nat.le_of_ble_eq_true rfl) dX6_shakes_30 ⟨Nat.zero_le _, Nat.zero_le _⟩ (fun H locs hR => ?_)
      refine lv_iconst (v := 1) hx hb dX6_shakes_33 (by decide) ?_
      refine lv_iadd hx hb dX6_shakes_34 ?_
      obtain ⟨w21, hq20, hf⟩ := qbd_s hf
      refine q_callVv hC hR (mX6_sets (qJ hC) hq20) (by decide) (qsh_238 G ad _) rfl qk_1234 qk_1236 qk_24 qk_64 qk_1237 qhd_X6_sets ⟨Nat.le_of_ble_eq_true rfl, Nat.le_of_ble_eq_true rfl⟩ hl.1 rfl (Nat.le_of_ble_eq_true rfl) dX6_shakes_35 ⟨Nat.zero_le _, Nat.zero_le _⟩ (fun H locs hR => ?_)
      refine lv_aload_n hx hb dX6_shakes_38 rfl (lv_at hl 1 rfl) ?_
      refine lv_iload_n hx hb dX6_shakes_39 rfl (lv_at hl 2 rfl) ?_
      refine lv_iconst (v := 2) hx hb dX6_shakes_40 (by decide) ?_
      refine lv_iconst (v := 1) hx hb dX6_shakes_41 (by decide) ?_
      refine lv_iload_n hx hb dX6_shakes_42 rfl (lv_at hl 0 rfl) ?_
      refine lv_iconst (v := 1) hx hb dX6_shakes_43 (by decide) ?_
      refine lv_isub hx hb dX6_shakes_44 ?_
      refine va_mmax hx hb (hC.2.2.1.trans hl.1.symm) hC.2.2.2.1 (hC.2.2.2.2.1 _ qk_1293) (hC.2.2.2.2.1 _ qk_1294) (hC.2.2.2.2.1 _ qk_65) (hC.2.2.2.2.1 _ qk_1295) (Nat.le_of_ble_eq_true rfl) (Nat.le_of_ble_eq_true rfl) (Nat.zero_le _) (Nat.zero_le _) dX6_shakes_45 ?_
      refine lv_topi (fun x22 ex22 => ?_)
      have hf := qnm_t hf ex22
      obtain ⟨w24, hq23, hf⟩ := qbd_s hf
      refine q_callVv hC hR (mX6_sets (qJ hC) hq23) (by decide) (qsh_238 G ad _) rfl qk_1234 qk_1236 qk_24 qk_64 qk_1237 qhd_X6_sets ⟨Nat.le_of_ble_eq_true rfl, Nat.le_of_ble_eq_true rfl⟩ hl.1 rfl (Nat.le_of_ble_eq_true rfl) dX6_shakes_48 ⟨Nat.zero_le _, Nat.zero_le _⟩ (fun H locs hR => ?_)
      refine lv_aload_n hx hb dX6_shakes_51 rfl (lv_at hl 1 rfl) ?_
      refine lv_iload_n hx hb dX6_shakes_52 rfl (lv_at hl 2 rfl) ?_
      refine lv_iconst (v := 4) hx hb dX6_shakes_53 (by decide) ?_
      refine lv_aload_n hx hb dX6_shakes_54 rfl (lv_at hl 1 rfl) ?_
      refine lv_iload_n hx hb dX6_shakes_55 rfl (lv_at hl 2 rfl) ?_
      refine lv_iconst (v := 3) hx hb dX6_shakes_56 (by decide) ?_
      obtain ⟨r26, hq25, hf⟩ := qbd_s hf
      refine q_callVi hC hR (mX6_of (qJ hC) hq25) (by decide) (qsh_238 G ad _) rfl qk_1230 qk_1232 qk_23 qk_64 qk_1233 qhd_X6_of ⟨Nat.le_of_ble_eq_true rfl, Nat.le_of_ble_eq_true rfl⟩ hl.1 rfl (Nat.le_of_ble_eq_true rfl) dX6_shakes_57 ⟨Nat.zero_le _, Nat.zero_le _⟩ (fun H locs hR => ?_)
      refine lv_iconst (v := 3) hx hb dX6_shakes_60 (by decide) ?_
      refine lv_icmp_ne (tgt := 68) hx hb dX6_shakes_61 (by decide) (fun c_27 => ?_) (fun c_27 => ?_)
      · have hf := qif_f hf c_27
        refine lv_iconst (v := 0) hx hb dX6_shakes_68 (by decide) ?_
        exact mX6_shakes_L69 hC hr _ _ _ _ _ _ _ _ hf hR (lv_sub hl [1, 2] rfl)
      · have hf := qif_t hf c_27
        refine lv_iconst (v := 1) hx hb dX6_shakes_64 (by decide) ?_
        refine lv_goto (tgt := 69) hx hb dX6_shakes_65 (by decide) ?_
        exact mX6_shakes_L69 hC hr _ _ _ _ _ _ _ _ hf hR (lv_sub hl [1, 2] rfl)
  · have hf := qif_t hf c_5
    refine lv_iconst (v := 0) hx hb dX6_shakes_17 (by decide) ?_
    exact q_iret hC hR hr (by decide) (qso2 hf).1 (qso2 hf).2 dX6_shakes_18
-- X6.swings
def fX6_swings_L69   (w : qMem) (x1 : Int32) (s0 : Int32) : Option (Int32 × qMem) :=
  qbd (fX6_sets w x1 3 s0) fun (w12 : qMem) =>
  if s0 ≤ 20 then
    qbd (fX6_sets w12 x1 4 0) fun (w15 : qMem) =>
    if s0 ≤ 20 then
      some (0, w15)
    else
      some (1, w15)
  else
    qbd (fX6_sets w12 x1 4 1) fun (w18 : qMem) =>
    if s0 ≤ 20 then
      some (0, w18)
    else
      some (1, w18)
set_option maxHeartbeats 4000000 in
set_option maxRecDepth 100000 in
theorem mX6_swings_L69 {p : Program} {l : Launch} {e : Env} {s : State} {m : MethodId} {args : Array Value} {below : List Frame} {meth : Method} {c0 : Code} {D : va_G} {G : Nat → ClassId} {ad : Nat → Nat}   {rF : Int32} {wF : qMem}  (hC : qCx p c0 cX6_swings 5 s m args meth RX6 D G ad) (hr : meth.sig.returnType = some .boolean)  : ∀ (w : qMem) (x1 : Int32) (s0 : Int32) (H : Heap) (locs : List Loc) (ls : Array Slot), fX6_swings_L69 w x1 s0 = some (rF, wF) → qRp D G ad s w H locs → lv_has ls 5 [(0, .ref (ad 238)), (1, .int x1)] → W p l e (qrm 2 0 0) s m args below meth c0 H locs 0 0 (MQ below (qQI D G ad s wF rF) args s 0 0 (qAdr ad s.heap.size)) (F0 m 69 ls [.int s0]) := by
  have hx := hC.1
  have hb := hC.2.1
  intro w x1 s0 H locs ls hf hR hl
  unfold fX6_swings_L69 at hf
  refine lv_istore (lv' := [(4, .int s0), (0, .ref (ad 238)), (1, .int x1)]) hx hb dX6_swings_69 hl (by decide) rfl (fun ls hl => ?_)
  refine lv_aload_n hx hb dX6_swings_71 rfl (lv_at hl 1 rfl) ?_
  refine lv_iload_n hx hb dX6_swings_72 rfl (lv_at hl 2 rfl) ?_
  refine lv_iconst (v := 3) hx hb dX6_swings_73 (by decide) ?_
  refine lv_iload hx hb dX6_swings_74 (lv_at hl 0 rfl) ?_
  obtain ⟨w12, hq11, hf⟩ := qbd_s hf
  refine q_callVv hC hR (mX6_sets (qJ hC) hq11) (by decide) (qsh_238 G ad _) rfl qk_1234 qk_1236 qk_24 qk_64 qk_1237 qhd_X6_sets ⟨Nat.le_of_ble_eq_true rfl, Nat.le_of_ble_eq_true rfl⟩ hl.1 rfl (Nat.le_of_ble_eq_true rfl) dX6_swings_76 ⟨Nat.zero_le _, Nat.zero_le _⟩ (fun H locs hR => ?_)
  refine lv_aload_n hx hb dX6_swings_79 rfl (lv_at hl 1 rfl) ?_
  refine lv_iload_n hx hb dX6_swings_80 rfl (lv_at hl 2 rfl) ?_
  refine lv_iconst (v := 4) hx hb dX6_swings_81 (by decide) ?_
  refine lv_iload hx hb dX6_swings_82 (lv_at hl 0 rfl) ?_
  refine lv_bipush (v := 20) hx hb dX6_swings_84 (by decide) ?_
  refine lv_icmp_le (tgt := 93) hx hb dX6_swings_86 (by decide) (fun c_13 => ?_) (fun c_13 => ?_)
  · have hf := qif_t hf c_13
    refine lv_iconst (v := 0) hx hb dX6_swings_93 (by decide) ?_
    obtain ⟨w15, hq14, hf⟩ := qbd_s hf
    refine q_callVv hC hR (mX6_sets (qJ hC) hq14) (by decide) (qsh_238 G ad _) rfl qk_1234 qk_1236 qk_24 qk_64 qk_1237 qhd_X6_sets ⟨Nat.le_of_ble_eq_true rfl, Nat.le_of_ble_eq_true rfl⟩ hl.1 rfl (Nat.le_of_ble_eq_true rfl) dX6_swings_94 ⟨Nat.zero_le _, Nat.zero_le _⟩ (fun H locs hR => ?_)
    refine lv_iload hx hb dX6_swings_97 (lv_at hl 0 rfl) ?_
    refine lv_bipush (v := 20) hx hb dX6_swings_99 (by decide) ?_
    refine lv_icmp_le (tgt := 108) hx hb dX6_swings_101 (by decide) (fun c_16 => ?_) (fun c_16 => ?_)
    · have hf := qif_t hf c_16
      refine lv_iconst (v := 0) hx hb dX6_swings_108 (by decide) ?_
      exact q_iret hC hR hr (by decide) (qso2 hf).1 (qso2 hf).2 dX6_swings_109
    · have hf := qif_f hf c_16
      refine lv_iconst (v := 1) hx hb dX6_swings_104 (by decide) ?_
      refine lv_goto (tgt := 109) hx hb dX6_swings_105 (by decide) ?_
      exact q_iret hC hR hr (by decide) (qso2 hf).1 (qso2 hf).2 dX6_swings_109
  · have hf := qif_f hf c_13
    refine lv_iconst (v := 1) hx hb dX6_swings_89 (by decide) ?_
    refine lv_goto (tgt := 94) hx hb dX6_swings_90 (by decide) ?_
    obtain ⟨w18, hq17, hf⟩ := qbd_s hf
    refine q_callVv hC hR (mX6_sets (qJ hC) hq17) (by decide) (qsh_238 G ad _) rfl qk_1234 qk_1236 qk_24 qk_64 qk_1237 qhd_X6_sets ⟨Nat.le_of_ble_eq_true rfl, Nat.le_of_ble_eq_true rfl⟩ hl.1 rfl (Nat.le_of_ble_eq_true rfl) dX6_swings_94 ⟨Nat.zero_le _, Nat.zero_le _⟩ (fun H locs hR => ?_)
    refine lv_iload hx hb dX6_swings_97 (lv_at hl 0 rfl) ?_
    refine lv_bipush (v := 20) hx hb dX6_swings_99 (by decide) ?_
    refine lv_icmp_le (tgt := 108) hx hb dX6_swings_101 (by decide) (fun c_19 => ?_) (fun c_19 => ?_)
    · have hf := qif_t hf c_19
      refine lv_iconst (v := 0) hx hb dX6_swings_108 (by decide) ?_
      exact q_iret hC hR hr (by decide) (qso2 hf).1 (qso2 hf).2 dX6_swings_109
    · have hf := qif_f hf c_19
      refine lv_iconst (v := 1) hx hb dX6_swings_104 (by decide) ?_
      refine lv_goto (tgt := 109) hx hb dX6_swings_105 (by decide) ?_
      exact q_iret hC hR hr (by decide) (qso2 hf).1 (qso2 hf).2 dX6_swings_109
def fX6_swings (w : qMem)  (a1 : Int32) (a2 : Int32) (a3 : Int32) : Option (Int32 × qMem) :=
  qbd (fX6_of w a1 4) fun (r2 : Int32) =>
  if r2 = 1 then
    some (0, w)
  else
    qbd (fX6_of w a1 3) fun (r5 : Int32) =>
    if a2 ≤ 0 then
      qnm (if 0 < r5 - 1 then r5 - 1 else 0) fun (x7 : Int32) =>
      qbd (fX6_of w a1 5) fun (r9 : Int32) =>
      if r9 = a3 then
        fX6_swings_L69 w a1 (x7 / 2)
      else
        fX6_swings_L69 w a1 x7
    else
      qbd (fX6_of w a1 2) fun (r21 : Int32) =>
      if a2 = 0 then none else
      qnm ((r5 + a2) + (r21 - r21 / a2 * a2)) fun (x23 : Int32) =>
      qbd (fX6_of w a1 5) fun (r25 : Int32) =>
      if r25 = a3 then
        fX6_swings_L69 w a1 (x23 / 2)
      else
        fX6_swings_L69 w a1 x23
theorem qhd_X6_swings : yX6_swings.cls ≠ "java/lang/invoke/MethodHandle" ∧ yX6_swings.cls ≠ "java/lang/invoke/VarHandle" ∧ (parseMethodDescriptor yX6_swings.desc).map (fun d => d.parameters.length) = some 3 := ⟨by decide +kernel, by decide +kernel, by decide +kernel⟩
set_option maxHeartbeats 4000000 in
set_option maxRecDepth 100000 in
theorem mX6_swings {l : Launch} {D : va_G} {G : Nat → ClassId} {ad : Nat → Nat} (hJ : qInj ad) {w : qMem}   {a1 : Int32} {a2 : Int32} {a3 : Int32} {rF : Int32} {wF : qMem} (hf : fX6_swings w a1 a2 a3 = some (rF, wF)) : qCMi l D G ad yX6_swings cX6_swings 5 (some .boolean) 2 0 0 [.ref (ad 238), .int a1, .int a2, .int a3] w rF wF := by
  refine q_start RX6 rfl (by decide +kernel) hJ (fun a b h => by simp only [qQI, qQV, qQR, h]) (Nat.le_of_ble_eq_true rfl) ?_
  intro p e s m args below meth c0 ls hC hr hR hl
  have hx := hC.1
  have hb := hC.2.1
  have hl : lv_has ls 5 [(0, .ref (ad 238)), (1, .int a1), (2, .int a2), (3, .int a3)] := hl
  unfold fX6_swings at hf
  refine lv_aload_n hx hb dX6_swings_0 rfl (lv_at hl 0 rfl) ?_
  refine lv_iload_n hx hb dX6_swings_1 rfl (lv_at hl 1 rfl) ?_
  refine lv_iconst (v := 4) hx hb dX6_swings_2 (by decide) ?_
  obtain ⟨r2, hq1, hf⟩ := qbd_s hf
  refine q_callVi hC hR (mX6_of (qJ hC) hq1) (by decide) (qsh_238 G ad _) rfl qk_1230 qk_1232 qk_23 qk_64 qk_1233 qhd_X6_of ⟨Nat.le_of_ble_eq_true rfl, Nat.le_of_ble_eq_true rfl⟩ hl.1 rfl (Nat.le_of_ble_eq_true rfl) dX6_swings_3 ⟨Nat.zero_le _, Nat.zero_le _⟩ (fun H locs hR => ?_)
  refine lv_iconst (v := 1) hx hb dX6_swings_6 (by decide) ?_
  refine lv_icmp_ne (tgt := 12) hx hb dX6_swings_7 (by decide) (fun c_3 => ?_) (fun c_3 => ?_)
  · have hf := qif_f hf c_3
    refine lv_aload_n hx hb dX6_swings_12 rfl (lv_at hl 0 rfl) ?_
    refine lv_iload_n hx hb dX6_swings_13 rfl (lv_at hl 1 rfl) ?_
    refine lv_iconst (v := 3) hx hb dX6_swings_14 (by decide) ?_
    obtain ⟨r5, hq4, hf⟩ := qbd_s hf
    refine q_callVi hC hR (mX6_of (qJ hC) hq4) (by decide) (qsh_238 G ad _) rfl qk_1230 qk_1232 qk_23 qk_64 qk_1233 qhd_X6_of ⟨Nat.le_of_ble_eq_true rfl, Nat.le_of_ble_eq_true rfl⟩ hl.1 rfl (Nat.le_of_ble_eq_true rfl) dX6_swings_15 ⟨Nat.zero_le _, Nat.zero_le _⟩ (fun H locs hR => ?_)
    refine lv_istore (lv' := [(4, .int r5), (0, .ref (ad 238)), (1, .int a1), (2, .int a2), (3, .int a3)]) hx hb dX6_swings_18 hl (by decide) rfl (fun ls hl => ?_)
    refine lv_iload_n hx hb dX6_swings_20 rfl (lv_at hl 3 rfl) ?_
    refine lv_if_le (tgt := 40) hx hb dX6_swings_21 (by decide) (fun c_6 => ?_) (fun c_6 => ?_)
    · have hf := qif_t hf c_6
      refine lv_iconst (v := 0) hx hb dX6_swings_40 (by decide) ?_
      refine lv_iload hx hb dX6_swings_41 (lv_at hl 0 rfl) ?_
      refine lv_iconst (v := 1) hx hb dX6_swings_43 (by decide) ?_
      refine lv_isub hx hb dX6_swings_44 ?_
      refine va_mmax hx hb (hC.2.2.1.trans hl.1.symm) hC.2.2.2.1 (hC.2.2.2.2.1 _ qk_1293) (hC.2.2.2.2.1 _ qk_1294) (hC.2.2.2.2.1 _ qk_65) (hC.2.2.2.2.1 _ qk_1295) (Nat.le_of_ble_eq_true rfl) (Nat.le_of_ble_eq_true rfl) (Nat.zero_le _) (Nat.zero_le _) dX6_swings_45 ?_
      refine lv_topi (fun x7 ex7 => ?_)
      have hf := qnm_t hf ex7
      refine lv_istore (lv' := [(4, .int x7), (0, .ref (ad 238)), (1, .int a1), (2, .int a2), (3, .int a3)]) hx hb dX6_swings_48 hl (by decide) rfl (fun ls hl => ?_)
      refine lv_aload_n hx hb dX6_swings_50 rfl (lv_at hl 1 rfl) ?_
      refine lv_iload_n hx hb dX6_swings_51 rfl (lv_at hl 2 rfl) ?_
      refine lv_iconst (v := 5) hx hb dX6_swings_52 (by decide) ?_
      obtain ⟨r9, hq8, hf⟩ := qbd_s hf
      refine q_callVi hC hR (mX6_of (qJ hC) hq8) (by decide) (qsh_238 G ad _) rfl qk_1230 qk_1232 qk_23 qk_64 qk_1233 qhd_X6_of ⟨Nat.le_of_ble_eq_true rfl, Nat.le_of_ble_eq_true rfl⟩ hl.1 rfl (Nat.le_of_ble_eq_true rfl) dX6_swings_53 ⟨Nat.zero_le _, Nat.zero_le _⟩ (fun H locs hR => ?_)
      refine lv_iload_n hx hb dX6_swings_56 rfl (lv_at hl 4 rfl) ?_
      refine lv_icmp_ne (tgt := 67) hx hb dX6_swings_57 (by decide) (fun c_10 => ?_) (fun c_10 => ?_)
      · have hf := qif_f hf c_10
        refine lv_iload hx hb dX6_swings_67 (lv_at hl 0 rfl) ?_
        exact mX6_swings_L69 hC hr _ _ _ _ _ _ hf hR (lv_sub hl [1, 2] rfl)
      · have hf := qif_t hf c_10
        refine lv_iload hx hb dX6_swings_60 (lv_at hl 0 rfl) ?_
        refine lv_iconst (v := 2) hx hb dX6_swings_62 (by decide) ?_
        refine lv_idiv hx hb dX6_swings_63 (by decide) ?_
        refine lv_goto (tgt := 69) hx hb dX6_swings_64 (by decide) ?_
        exact mX6_swings_L69 hC hr _ _ _ _ _ _ hf hR (lv_sub hl [1, 2] rfl)
    · have hf := qif_f hf c_6
      refine lv_iload hx hb dX6_swings_24 (lv_at hl 0 rfl) ?_
      refine lv_iload_n hx hb dX6_swings_26 rfl (lv_at hl 3 rfl) ?_
      refine lv_iadd hx hb dX6_swings_27 ?_
      refine lv_aload_n hx hb dX6_swings_28 rfl (lv_at hl 1 rfl) ?_
      refine lv_iload_n hx hb dX6_swings_29 rfl (lv_at hl 2 rfl) ?_
      refine lv_iconst (v := 2) hx hb dX6_swings_30 (by decide) ?_
      obtain ⟨r21, hq20, hf⟩ := qbd_s hf
      refine q_callVi hC hR (mX6_of (qJ hC) hq20) (by decide) (qsh_238 G ad _) rfl qk_1230 qk_1232 qk_23 qk_64 qk_1233 qhd_X6_of ⟨Nat.le_of_ble_eq_true rfl, Nat.le_of_ble_eq_true rfl⟩ hl.1 rfl (Nat.le_of_ble_eq_true rfl) dX6_swings_31 ⟨Nat.zero_le _, Nat.zero_le _⟩ (fun H locs hR => ?_)
      refine lv_iload_n hx hb dX6_swings_34 rfl (lv_at hl 3 rfl) ?_
      obtain ⟨g22, hf⟩ := qgdn hf
      refine lv_irem hx hb dX6_swings_35 g22 ?_
      refine lv_iadd hx hb dX6_swings_36 ?_
      refine lv_goto (tgt := 48) hx hb dX6_swings_37 (by decide) ?_
      refine lv_topi (fun x23 ex23 => ?_)
      have hf := qnm_t hf ex23
      refine lv_istore (lv' := [(4, .int x23), (0, .ref (ad 238)), (1, .int a1), (2, .int a2), (3, .int a3)]) hx hb dX6_swings_48 hl (by decide) rfl (fun ls hl => ?_)
      refine lv_aload_n hx hb dX6_swings_50 rfl (lv_at hl 1 rfl) ?_
      refine lv_iload_n hx hb dX6_swings_51 rfl (lv_at hl 2 rfl) ?_
      refine lv_iconst (v := 5) hx hb dX6_swings_52 (by decide) ?_
      obtain ⟨r25, hq24, hf⟩ := qbd_s hf
      refine q_callVi hC hR (mX6_of (qJ hC) hq24) (by decide) (qsh_238 G ad _) rfl qk_1230 qk_1232 qk_23 qk_64 qk_1233 qhd_X6_of ⟨Nat.le_of_ble_eq_true rfl, Nat.le_of_ble_eq_true rfl⟩ hl.1 rfl (Nat.le_of_ble_eq_true rfl) dX6_swings_53 ⟨Nat.zero_le _, Nat.zero_le _⟩ (fun H locs hR => ?_)
      refine lv_iload_n hx hb dX6_swings_56 rfl (lv_at hl 4 rfl) ?_
      refine lv_icmp_ne (tgt := 67) hx hb dX6_swings_57 (by decide) (fun c_26 => ?_) (fun c_26 => ?_)
      · have hf := qif_f hf c_26
        refine lv_iload hx hb dX6_swings_67 (lv_at hl 0 rfl) ?_
        exact mX6_swings_L69 hC hr _ _ _ _ _ _ hf hR (lv_sub hl [1, 2] rfl)
      · have hf := qif_t hf c_26
        refine lv_iload hx hb dX6_swings_60 (lv_at hl 0 rfl) ?_
        refine lv_iconst (v := 2) hx hb dX6_swings_62 (by decide) ?_
        refine lv_idiv hx hb dX6_swings_63 (by decide) ?_
        refine lv_goto (tgt := 69) hx hb dX6_swings_64 (by decide) ?_
        exact mX6_swings_L69 hC hr _ _ _ _ _ _ hf hR (lv_sub hl [1, 2] rfl)
  · have hf := qif_t hf c_3
    refine lv_iconst (v := 0) hx hb dX6_swings_10 (by decide) ?_
    exact q_iret hC hR hr (by decide) (qso2 hf).1 (qso2 hf).2 dX6_swings_11
-- X6.marks
def fX6_marks_L51   (w : qMem) (x1 : Int32) (x5 : Int32) (s0 : Int32) (s1 : Int32) (s2 : Int32) : Option (Int32 × qMem) :=
  qbd (fX6_sets w s2 s1 s0) fun (w8 : qMem) =>
  qbd (fX6_of w8 x1 6) fun (r10 : Int32) =>
  qbd (fX6_sets w8 x1 6 (r10 + x5)) fun (w12 : qMem) =>
  some (x5, w12)
set_option maxHeartbeats 4000000 in
set_option maxRecDepth 100000 in
theorem mX6_marks_L51 {p : Program} {l : Launch} {e : Env} {s : State} {m : MethodId} {args : Array Value} {below : List Frame} {meth : Method} {c0 : Code} {D : va_G} {G : Nat → ClassId} {ad : Nat → Nat}   {rF : Int32} {wF : qMem}  (hC : qCx p c0 cX6_marks 6 s m args meth RX6 D G ad) (hr : meth.sig.returnType = some .int)  : ∀ (w : qMem) (x1 : Int32) (x5 : Int32) (s0 : Int32) (s1 : Int32) (s2 : Int32) (H : Heap) (locs : List Loc) (ls : Array Slot), fX6_marks_L51 w x1 x5 s0 s1 s2 = some (rF, wF) → qRp D G ad s w H locs → lv_has ls 6 [(0, .ref (ad 238)), (1, .int x1), (5, .int x5)] → W p l e (qrm 2 0 0) s m args below meth c0 H locs 0 0 (MQ below (qQI D G ad s wF rF) args s 0 0 (qAdr ad s.heap.size)) (F0 m 51 ls [.int s0, .int s1, .int s2, .ref (ad 238)]) := by
  have hx := hC.1
  have hb := hC.2.1
  intro w x1 x5 s0 s1 s2 H locs ls hf hR hl
  unfold fX6_marks_L51 at hf
  obtain ⟨w8, hq7, hf⟩ := qbd_s hf
  refine q_callVv hC hR (mX6_sets (qJ hC) hq7) (by decide) (qsh_238 G ad _) rfl qk_1234 qk_1236 qk_24 qk_64 qk_1237 qhd_X6_sets ⟨Nat.le_of_ble_eq_true rfl, Nat.le_of_ble_eq_true rfl⟩ hl.1 rfl (Nat.le_of_ble_eq_true rfl) dX6_marks_51 ⟨Nat.zero_le _, Nat.zero_le _⟩ (fun H locs hR => ?_)
  refine lv_aload_n hx hb dX6_marks_54 rfl (lv_at hl 0 rfl) ?_
  refine lv_iload_n hx hb dX6_marks_55 rfl (lv_at hl 1 rfl) ?_
  refine lv_bipush (v := 6) hx hb dX6_marks_56 (by decide) ?_
  refine lv_aload_n hx hb dX6_marks_58 rfl (lv_at hl 0 rfl) ?_
  refine lv_iload_n hx hb dX6_marks_59 rfl (lv_at hl 1 rfl) ?_
  refine lv_bipush (v := 6) hx hb dX6_marks_60 (by decide) ?_
  obtain ⟨r10, hq9, hf⟩ := qbd_s hf
  refine q_callVi hC hR (mX6_of (qJ hC) hq9) (by decide) (qsh_238 G ad _) rfl qk_1230 qk_1232 qk_23 qk_64 qk_1233 qhd_X6_of ⟨Nat.le_of_ble_eq_true rfl, Nat.le_of_ble_eq_true rfl⟩ hl.1 rfl (Nat.le_of_ble_eq_true rfl) dX6_marks_62 ⟨Nat.zero_le _, Nat.zero_le _⟩ (fun H locs hR => ?_)
  refine lv_iload hx hb dX6_marks_65 (lv_at hl 2 rfl) ?_
  refine lv_iadd hx hb dX6_marks_67 ?_
  obtain ⟨w12, hq11, hf⟩ := qbd_s hf
  refine q_callVv hC hR (mX6_sets (qJ hC) hq11) (by decide) (qsh_238 G ad _) rfl qk_1234 qk_1236 qk_24 qk_64 qk_1237 qhd_X6_sets ⟨Nat.le_of_ble_eq_true rfl, Nat.le_of_ble_eq_true rfl⟩ hl.1 rfl (Nat.le_of_ble_eq_true rfl) dX6_marks_68 ⟨Nat.zero_le _, Nat.zero_le _⟩ (fun H locs hR => ?_)
  refine lv_iload hx hb dX6_marks_71 (lv_at hl 2 rfl) ?_
  exact q_iret hC hR hr rfl (qso2 hf).1 (qso2 hf).2 dX6_marks_73
def fX6_marks_L29   (w : qMem) (x1 : Int32) (x3 : Int32) (x4 : Int32) (s0 : Int32) : Option (Int32 × qMem) :=
  if x3 = 0 then
    fX6_marks_L51 w x1 s0 x4 2 x1
  else
    qnm (if 0 < x4 - 1 then x4 - 1 else 0) fun (x13 : Int32) =>
    fX6_marks_L51 w x1 s0 x13 2 x1
set_option maxHeartbeats 4000000 in
set_option maxRecDepth 100000 in
theorem mX6_marks_L29 {p : Program} {l : Launch} {e : Env} {s : State} {m : MethodId} {args : Array Value} {below : List Frame} {meth : Method} {c0 : Code} {D : va_G} {G : Nat → ClassId} {ad : Nat → Nat}   {rF : Int32} {wF : qMem}  (hC : qCx p c0 cX6_marks 6 s m args meth RX6 D G ad) (hr : meth.sig.returnType = some .int)  : ∀ (w : qMem) (x1 : Int32) (x3 : Int32) (x4 : Int32) (s0 : Int32) (H : Heap) (locs : List Loc) (ls : Array Slot), fX6_marks_L29 w x1 x3 x4 s0 = some (rF, wF) → qRp D G ad s w H locs → lv_has ls 6 [(0, .ref (ad 238)), (1, .int x1), (3, .int x3), (4, .int x4)] → W p l e (qrm 2 0 0) s m args below meth c0 H locs 0 0 (MQ below (qQI D G ad s wF rF) args s 0 0 (qAdr ad s.heap.size)) (F0 m 29 ls [.int s0]) := by
  have hx := hC.1
  have hb := hC.2.1
  intro w x1 x3 x4 s0 H locs ls hf hR hl
  unfold fX6_marks_L29 at hf
  refine lv_istore (lv' := [(5, .int s0), (0, .ref (ad 238)), (1, .int x1), (3, .int x3), (4, .int x4)]) hx hb dX6_marks_29 hl (by decide) rfl (fun ls hl => ?_)
  refine lv_aload_n hx hb dX6_marks_31 rfl (lv_at hl 1 rfl) ?_
  refine lv_iload_n hx hb dX6_marks_32 rfl (lv_at hl 2 rfl) ?_
  refine lv_iconst (v := 2) hx hb dX6_marks_33 (by decide) ?_
  refine lv_iload_n hx hb dX6_marks_34 rfl (lv_at hl 3 rfl) ?_
  refine lv_if_eq (tgt := 49) hx hb dX6_marks_35 (by decide) (fun c_6 => ?_) (fun c_6 => ?_)
  · have hf := qif_t hf c_6
    refine lv_iload hx hb dX6_marks_49 (lv_at hl 4 rfl) ?_
    exact mX6_marks_L51 hC hr _ _ _ _ _ _ _ _ _ hf hR (lv_sub hl [1, 2, 0] rfl)
  · have hf := qif_f hf c_6
    refine lv_iconst (v := 0) hx hb dX6_marks_38 (by decide) ?_
    refine lv_iload hx hb dX6_marks_39 (lv_at hl 4 rfl) ?_
    refine lv_iconst (v := 1) hx hb dX6_marks_41 (by decide) ?_
    refine lv_isub hx hb dX6_marks_42 ?_
    refine va_mmax hx hb (hC.2.2.1.trans hl.1.symm) hC.2.2.2.1 (hC.2.2.2.2.1 _ qk_1293) (hC.2.2.2.2.1 _ qk_1294) (hC.2.2.2.2.1 _ qk_65) (hC.2.2.2.2.1 _ qk_1295) (Nat.le_of_ble_eq_true rfl) (Nat.le_of_ble_eq_true rfl) (Nat.zero_le _) (Nat.zero_le _) dX6_marks_43 ?_
    refine lv_topi (fun x13 ex13 => ?_)
    have hf := qnm_t hf ex13
    refine lv_goto (tgt := 51) hx hb dX6_marks_46 (by decide) ?_
    exact mX6_marks_L51 hC hr _ _ _ _ _ _ _ _ _ hf hR (lv_sub hl [1, 2, 0] rfl)
def fX6_marks (w : qMem)  (a1 : Int32) (a2 : Int32) (a3 : Int32) : Option (Int32 × qMem) :=
  qbd (fX6_of w a1 2) fun (r2 : Int32) =>
  if a3 = 0 then
    qnm (if 0 ≤ r2 - a2 then r2 - a2 else 0 - (r2 - a2)) fun (x4 : Int32) =>
    qnm (if 0 < 5 - x4 then 5 - x4 else 0) fun (x5 : Int32) =>
    fX6_marks_L29 w a1 a3 r2 x5
  else
    fX6_marks_L29 w a1 a3 r2 0
theorem qhd_X6_marks : yX6_marks.cls ≠ "java/lang/invoke/MethodHandle" ∧ yX6_marks.cls ≠ "java/lang/invoke/VarHandle" ∧ (parseMethodDescriptor yX6_marks.desc).map (fun d => d.parameters.length) = some 3 := ⟨by decide +kernel, by decide +kernel, by decide +kernel⟩
set_option maxHeartbeats 4000000 in
set_option maxRecDepth 100000 in
theorem mX6_marks {l : Launch} {D : va_G} {G : Nat → ClassId} {ad : Nat → Nat} (hJ : qInj ad) {w : qMem}   {a1 : Int32} {a2 : Int32} {a3 : Int32} {rF : Int32} {wF : qMem} (hf : fX6_marks w a1 a2 a3 = some (rF, wF)) : qCMi l D G ad yX6_marks cX6_marks 6 (some .int) 2 0 0 [.ref (ad 238), .int a1, .int a2, .int a3] w rF wF := by
  refine q_start RX6 rfl (by decide +kernel) hJ (fun a b h => by simp only [qQI, qQV, qQR, h]) (Nat.le_of_ble_eq_true rfl) ?_
  intro p e s m args below meth c0 ls hC hr hR hl
  have hx := hC.1
  have hb := hC.2.1
  have hl : lv_has ls 6 [(0, .ref (ad 238)), (1, .int a1), (2, .int a2), (3, .int a3)] := hl
  unfold fX6_marks at hf
  refine lv_aload_n hx hb dX6_marks_0 rfl (lv_at hl 0 rfl) ?_
  refine lv_iload_n hx hb dX6_marks_1 rfl (lv_at hl 1 rfl) ?_
  refine lv_iconst (v := 2) hx hb dX6_marks_2 (by decide) ?_
  obtain ⟨r2, hq1, hf⟩ := qbd_s hf
  refine q_callVi hC hR (mX6_of (qJ hC) hq1) (by decide) (qsh_238 G ad _) rfl qk_1230 qk_1232 qk_23 qk_64 qk_1233 qhd_X6_of ⟨Nat.le_of_ble_eq_true rfl, Nat.le_of_ble_eq_true rfl⟩ hl.1 rfl (Nat.le_of_ble_eq_true rfl) dX6_marks_3 ⟨Nat.zero_le _, Nat.zero_le _⟩ (fun H locs hR => ?_)
  refine lv_istore (lv' := [(4, .int r2), (0, .ref (ad 238)), (1, .int a1), (2, .int a2), (3, .int a3)]) hx hb dX6_marks_6 hl (by decide) rfl (fun ls hl => ?_)
  refine lv_iload_n hx hb dX6_marks_8 rfl (lv_at hl 4 rfl) ?_
  refine lv_if_eq (tgt := 16) hx hb dX6_marks_9 (by decide) (fun c_3 => ?_) (fun c_3 => ?_)
  · have hf := qif_t hf c_3
    refine lv_iconst (v := 0) hx hb dX6_marks_16 (by decide) ?_
    refine lv_iconst (v := 5) hx hb dX6_marks_17 (by decide) ?_
    refine lv_iload hx hb dX6_marks_18 (lv_at hl 0 rfl) ?_
    refine lv_iload_n hx hb dX6_marks_20 rfl (lv_at hl 3 rfl) ?_
    refine lv_isub hx hb dX6_marks_21 ?_
    refine va_mabs hx hb (hC.2.2.1.trans hl.1.symm) hC.2.2.2.1 (hC.2.2.2.2.1 _ qk_1308) (hC.2.2.2.2.1 _ qk_427) (hC.2.2.2.2.1 _ qk_65) (hC.2.2.2.2.1 _ qk_428) (Nat.le_of_ble_eq_true rfl) (Nat.le_of_ble_eq_true rfl) (Nat.zero_le _) (Nat.zero_le _) dX6_marks_22 ?_
    refine lv_topi (fun x4 ex4 => ?_)
    have hf := qnm_t hf ex4
    refine lv_isub hx hb dX6_marks_25 ?_
    refine va_mmax hx hb (hC.2.2.1.trans hl.1.symm) hC.2.2.2.1 (hC.2.2.2.2.1 _ qk_1293) (hC.2.2.2.2.1 _ qk_1294) (hC.2.2.2.2.1 _ qk_65) (hC.2.2.2.2.1 _ qk_1295) (Nat.le_of_ble_eq_true rfl) (Nat.le_of_ble_eq_true rfl) (Nat.zero_le _) (Nat.zero_le _) dX6_marks_26 ?_
    refine lv_topi (fun x5 ex5 => ?_)
    have hf := qnm_t hf ex5
    exact mX6_marks_L29 hC hr _ _ _ _ _ _ _ _ hf hR (lv_sub hl [1, 2, 4, 0] rfl)
  · have hf := qif_f hf c_3
    refine lv_iconst (v := 0) hx hb dX6_marks_12 (by decide) ?_
    refine lv_goto (tgt := 29) hx hb dX6_marks_13 (by decide) ?_
    exact mX6_marks_L29 hC hr _ _ _ _ _ _ _ _ hf hR (lv_sub hl [1, 2, 4, 0] rfl)
-- X6.shocks
def fX6_shocks_L134  (k21 : (qMem → Int32 → Int32 → Int32 → Int32 → Int32 → Option (Int32 × qMem))) (w : qMem) (x1 : Int32) (x2 : Int32) (x3 : Int32) (x4 : Int32) (x5 : Int32) (x6 : Int32) (x7 : Int32) : Option (Int32 × qMem) :=
  qbd (fX6_of w x5 0) fun (r16 : Int32) =>
  if r16 = x4 then
    if (x2 >>> (x6 &&& 31)) &&& 1 = 1 then
      qbd2 (fX6_marks w x5 x7 1) fun (r26 : Int32) (w27 : qMem) =>
      qnm (x3 + r26) fun (x28 : Int32) =>
      qnm (x5 + 1) fun (x29 : Int32) =>
      k21 w27 x1 x2 x28 x4 x29
    else
      qbd2 (fX6_marks w x5 x7 0) fun (r21 : Int32) (w22 : qMem) =>
      qnm (x3 + r21) fun (x23 : Int32) =>
      qnm (x5 + 1) fun (x24 : Int32) =>
      k21 w22 x1 x2 x23 x4 x24
  else
    qnm (x5 + 1) fun (x18 : Int32) =>
    k21 w x1 x2 x3 x4 x18
set_option maxHeartbeats 4000000 in
set_option maxRecDepth 100000 in
theorem mX6_shocks_L134 {p : Program} {l : Launch} {e : Env} {s : State} {m : MethodId} {args : Array Value} {below : List Frame} {meth : Method} {c0 : Code} {D : va_G} {G : Nat → ClassId} {ad : Nat → Nat}   {rF : Int32} {wF : qMem} {k21 : (qMem → Int32 → Int32 → Int32 → Int32 → Int32 → Option (Int32 × qMem))} (hC : qCx p c0 cX6_shocks 9 s m args meth RX6 D G ad) (hr : meth.sig.returnType = some .int) (hk21 : ∀ (w : qMem) (x1 : Int32) (x2 : Int32) (x3 : Int32) (x4 : Int32) (x5 : Int32) (H : Heap) (locs : List Loc) (ls : Array Slot), k21 w x1 x2 x3 x4 x5 = some (rF, wF) → qRp D G ad s w H locs → lv_has ls 9 [(0, .ref (ad 238)), (1, .int x1), (2, .int x2), (3, .int x3), (4, .int x4), (5, .int x5)] → W p l e (qrm 4 0 0) s m args below meth c0 H locs 0 0 (MQ below (qQI D G ad s wF rF) args s 0 0 (qAdr ad s.heap.size)) (F0 m 21 ls [])) : ∀ (w : qMem) (x1 : Int32) (x2 : Int32) (x3 : Int32) (x4 : Int32) (x5 : Int32) (x6 : Int32) (x7 : Int32) (H : Heap) (locs : List Loc) (ls : Array Slot), fX6_shocks_L134 k21 w x1 x2 x3 x4 x5 x6 x7 = some (rF, wF) → qRp D G ad s w H locs → lv_has ls 9 [(0, .ref (ad 238)), (1, .int x1), (2, .int x2), (3, .int x3), (4, .int x4), (5, .int x5), (6, .int x6), (7, .int x7)] → W p l e (qrm 4 0 0) s m args below meth c0 H locs 0 0 (MQ below (qQI D G ad s wF rF) args s 0 0 (qAdr ad s.heap.size)) (F0 m 134 ls []) := by
  have hx := hC.1
  have hb := hC.2.1
  intro w x1 x2 x3 x4 x5 x6 x7 H locs ls hf hR hl
  unfold fX6_shocks_L134 at hf
  refine lv_aload_n hx hb dX6_shocks_134 rfl (lv_at hl 0 rfl) ?_
  refine lv_iload hx hb dX6_shocks_135 (lv_at hl 5 rfl) ?_
  refine lv_iconst (v := 0) hx hb dX6_shocks_137 (by decide) ?_
  obtain ⟨r16, hq15, hf⟩ := qbd_s hf
  refine q_callVi hC hR (mX6_of (qJ hC) hq15) (by decide) (qsh_238 G ad _) rfl qk_1230 qk_1232 qk_23 qk_64 qk_1233 qhd_X6_of ⟨Nat.le_of_ble_eq_true rfl, Nat.le_of_ble_eq_true rfl⟩ hl.1 rfl (Nat.le_of_ble_eq_true rfl) dX6_shocks_138 ⟨Nat.zero_le _, Nat.zero_le _⟩ (fun H locs hR => ?_)
  refine lv_iload hx hb dX6_shocks_141 (lv_at hl 4 rfl) ?_
  refine lv_icmp_ne (tgt := 172) hx hb dX6_shocks_143 (by decide) (fun c_17 => ?_) (fun c_17 => ?_)
  · have hf := qif_f hf c_17
    obtain ⟨x18, ex18⟩ : ∃ y : Int32, y = x5 + 1 := ⟨_, rfl⟩
    have hf := qnm_t hf ex18
    refine lv_iinc (v := x18) (lv' := [(5, .int x18), (0, .ref (ad 238)), (1, .int x1), (2, .int x2), (3, .int x3), (4, .int x4), (6, .int x6), (7, .int x7)]) hx hb dX6_shocks_172 hl (k := 5) rfl (by rw [ex18]; rfl) (by decide) rfl (fun ls hl => ?_)
    refine lv_goto (tgt := 21) hx hb dX6_shocks_175 (by decide) ?_
    exact hk21 _ _ _ _ _ _ _ _ _ hf hR (lv_sub hl [1, 2, 3, 4, 5, 0] rfl)
  · have hf := qif_t hf c_17
    refine lv_iload_n hx hb dX6_shocks_146 rfl (lv_at hl 3 rfl) ?_
    refine lv_aload_n hx hb dX6_shocks_147 rfl (lv_at hl 0 rfl) ?_
    refine lv_iload hx hb dX6_shocks_148 (lv_at hl 5 rfl) ?_
    refine lv_iload hx hb dX6_shocks_150 (lv_at hl 7 rfl) ?_
    refine lv_iload_n hx hb dX6_shocks_152 rfl (lv_at hl 2 rfl) ?_
    refine lv_iload hx hb dX6_shocks_153 (lv_at hl 6 rfl) ?_
    refine lv_ishr hx hb dX6_shocks_155 ?_
    refine lv_iconst (v := 1) hx hb dX6_shocks_156 (by decide) ?_
    refine lv_iand hx hb dX6_shocks_157 ?_
    refine lv_iconst (v := 1) hx hb dX6_shocks_158 (by decide) ?_
    refine lv_icmp_ne (tgt := 166) hx hb dX6_shocks_159 (by decide) (fun c_19 => ?_) (fun c_19 => ?_)
    · have hf := qif_f hf c_19
      refine lv_iconst (v := 0) hx hb dX6_shocks_166 (by decide) ?_
      obtain ⟨r21, w22, hq20, hf⟩ := qbd2_s hf
      refine q_callVi hC hR (mX6_marks (qJ hC) hq20) (by decide) (qsh_238 G ad _) rfl qk_1304 qk_1306 qk_34 qk_64 qk_1307 qhd_X6_marks ⟨Nat.le_of_ble_eq_true rfl, Nat.le_of_ble_eq_true rfl⟩ hl.1 rfl (Nat.le_of_ble_eq_true rfl) dX6_shocks_167 ⟨Nat.zero_le _, Nat.zero_le _⟩ (fun H locs hR => ?_)
      refine lv_iadd hx hb dX6_shocks_170 ?_
      refine lv_topi (fun x23 ex23 => ?_)
      have hf := qnm_t hf ex23
      refine lv_istore_n (lv' := [(3, .int x23), (0, .ref (ad 238)), (1, .int x1), (2, .int x2), (4, .int x4), (5, .int x5), (6, .int x6), (7, .int x7)]) hx hb dX6_shocks_171 rfl hl (by decide) rfl (fun ls hl => ?_)
      obtain ⟨x24, ex24⟩ : ∃ y : Int32, y = x5 + 1 := ⟨_, rfl⟩
      have hf := qnm_t hf ex24
      refine lv_iinc (v := x24) (lv' := [(5, .int x24), (3, .int x23), (0, .ref (ad 238)), (1, .int x1), (2, .int x2), (4, .int x4), (6, .int x6), (7, .int x7)]) hx hb dX6_shocks_172 hl (k := 5) rfl (by rw [ex24]; rfl) (by decide) rfl (fun ls hl => ?_)
      refine lv_goto (tgt := 21) hx hb dX6_shocks_175 (by decide) ?_
      exact hk21 _ _ _ _ _ _ _ _ _ hf hR (lv_sub hl [2, 3, 4, 1, 5, 0] rfl)
    · have hf := qif_t hf c_19
      refine lv_iconst (v := 1) hx hb dX6_shocks_162 (by decide) ?_
      refine lv_goto (tgt := 167) hx hb dX6_shocks_163 (by decide) ?_
      obtain ⟨r26, w27, hq25, hf⟩ := qbd2_s hf
      refine q_callVi hC hR (mX6_marks (qJ hC) hq25) (by decide) (qsh_238 G ad _) rfl qk_1304 qk_1306 qk_34 qk_64 qk_1307 qhd_X6_marks ⟨Nat.le_of_ble_eq_true rfl, Nat.le_of_ble_eq_true rfl⟩ hl.1 rfl (Nat.le_of_ble_eq_true rfl) dX6_shocks_167 ⟨Nat.zero_le _, Nat.zero_le _⟩ (fun H locs hR => ?_)
      refine lv_iadd hx hb dX6_shocks_170 ?_
      refine lv_topi (fun x28 ex28 => ?_)
      have hf := qnm_t hf ex28
      refine lv_istore_n (lv' := [(3, .int x28), (0, .ref (ad 238)), (1, .int x1), (2, .int x2), (4, .int x4), (5, .int x5), (6, .int x6), (7, .int x7)]) hx hb dX6_shocks_171 rfl hl (by decide) rfl (fun ls hl => ?_)
      obtain ⟨x29, ex29⟩ : ∃ y : Int32, y = x5 + 1 := ⟨_, rfl⟩
      have hf := qnm_t hf ex29
      refine lv_iinc (v := x29) (lv' := [(5, .int x29), (3, .int x28), (0, .ref (ad 238)), (1, .int x1), (2, .int x2), (4, .int x4), (6, .int x6), (7, .int x7)]) hx hb dX6_shocks_172 hl (k := 5) rfl (by rw [ex29]; rfl) (by decide) rfl (fun ls hl => ?_)
      refine lv_goto (tgt := 21) hx hb dX6_shocks_175 (by decide) ?_
      exact hk21 _ _ _ _ _ _ _ _ _ hf hR (lv_sub hl [2, 3, 4, 1, 5, 0] rfl)
def fX6_shocks_L111  (k21 : (qMem → Int32 → Int32 → Int32 → Int32 → Int32 → Option (Int32 × qMem))) (w : qMem) (x1 : Int32) (x2 : Int32) (x3 : Int32) (x4 : Int32) (x5 : Int32) (x6 : Int32) (x8 : Int32) (s0 : Int32) (s1 : Int32) : Option (Int32 × qMem) :=
  qnm (quw w 238 11 (s1 + s0)) fun (w36 : qMem) =>
  if x8 = 0 then
    qnm (x2 ||| 0) fun (x38 : Int32) =>
    qnm (x5 + 1) fun (x39 : Int32) =>
    k21 w36 x1 x38 x3 x4 x39
  else
    qnm (x2 ||| (1 <<< (x6 &&& 31))) fun (x40 : Int32) =>
    qnm (x5 + 1) fun (x41 : Int32) =>
    k21 w36 x1 x40 x3 x4 x41
set_option maxHeartbeats 4000000 in
set_option maxRecDepth 100000 in
theorem mX6_shocks_L111 {p : Program} {l : Launch} {e : Env} {s : State} {m : MethodId} {args : Array Value} {below : List Frame} {meth : Method} {c0 : Code} {D : va_G} {G : Nat → ClassId} {ad : Nat → Nat}   {rF : Int32} {wF : qMem} {k21 : (qMem → Int32 → Int32 → Int32 → Int32 → Int32 → Option (Int32 × qMem))} (hC : qCx p c0 cX6_shocks 9 s m args meth RX6 D G ad) (hr : meth.sig.returnType = some .int) (hk21 : ∀ (w : qMem) (x1 : Int32) (x2 : Int32) (x3 : Int32) (x4 : Int32) (x5 : Int32) (H : Heap) (locs : List Loc) (ls : Array Slot), k21 w x1 x2 x3 x4 x5 = some (rF, wF) → qRp D G ad s w H locs → lv_has ls 9 [(0, .ref (ad 238)), (1, .int x1), (2, .int x2), (3, .int x3), (4, .int x4), (5, .int x5)] → W p l e (qrm 4 0 0) s m args below meth c0 H locs 0 0 (MQ below (qQI D G ad s wF rF) args s 0 0 (qAdr ad s.heap.size)) (F0 m 21 ls [])) : ∀ (w : qMem) (x1 : Int32) (x2 : Int32) (x3 : Int32) (x4 : Int32) (x5 : Int32) (x6 : Int32) (x8 : Int32) (s0 : Int32) (s1 : Int32) (H : Heap) (locs : List Loc) (ls : Array Slot), fX6_shocks_L111 k21 w x1 x2 x3 x4 x5 x6 x8 s0 s1 = some (rF, wF) → qRp D G ad s w H locs → lv_has ls 9 [(0, .ref (ad 238)), (1, .int x1), (2, .int x2), (3, .int x3), (4, .int x4), (5, .int x5), (6, .int x6), (8, .int x8)] → W p l e (qrm 4 0 0) s m args below meth c0 H locs 0 0 (MQ below (qQI D G ad s wF rF) args s 0 0 (qAdr ad s.heap.size)) (F0 m 111 ls [.int s0, .int s1, .ref (ad 238)]) := by
  have hx := hC.1
  have hb := hC.2.1
  intro w x1 x2 x3 x4 x5 x6 x8 s0 s1 H locs ls hf hR hl
  unfold fX6_shocks_L111 at hf
  refine lv_iadd hx hb dX6_shocks_111 ?_
  refine qput_X6_11 hC hR qk_1136 ⟨rfl, rfl⟩ dX6_shocks_112 (fun w36 H locs ew36 hR => ?_)
  have hf := qnm_t hf ew36
  refine lv_iload_n hx hb dX6_shocks_115 rfl (lv_at hl 2 rfl) ?_
  refine lv_iload hx hb dX6_shocks_116 (lv_at hl 7 rfl) ?_
  refine lv_if_eq (tgt := 128) hx hb dX6_shocks_118 (by decide) (fun c_37 => ?_) (fun c_37 => ?_)
  · have hf := qif_t hf c_37
    refine lv_iconst (v := 0) hx hb dX6_shocks_128 (by decide) ?_
    refine lv_ior hx hb dX6_shocks_129 ?_
    refine lv_topi (fun x38 ex38 => ?_)
    have hf := qnm_t hf ex38
    refine lv_istore_n (lv' := [(2, .int x38), (0, .ref (ad 238)), (1, .int x1), (3, .int x3), (4, .int x4), (5, .int x5), (6, .int x6), (8, .int x8)]) hx hb dX6_shocks_130 rfl hl (by decide) rfl (fun ls hl => ?_)
    refine lv_goto (tgt := 172) hx hb dX6_shocks_131 (by decide) ?_
    obtain ⟨x39, ex39⟩ : ∃ y : Int32, y = x5 + 1 := ⟨_, rfl⟩
    have hf := qnm_t hf ex39
    refine lv_iinc (v := x39) (lv' := [(5, .int x39), (2, .int x38), (0, .ref (ad 238)), (1, .int x1), (3, .int x3), (4, .int x4), (6, .int x6), (8, .int x8)]) hx hb dX6_shocks_172 hl (k := 5) rfl (by rw [ex39]; rfl) (by decide) rfl (fun ls hl => ?_)
    refine lv_goto (tgt := 21) hx hb dX6_shocks_175 (by decide) ?_
    exact hk21 _ _ _ _ _ _ _ _ _ hf hR (lv_sub hl [2, 3, 1, 4, 5, 0] rfl)
  · have hf := qif_f hf c_37
    refine lv_iconst (v := 1) hx hb dX6_shocks_121 (by decide) ?_
    refine lv_iload hx hb dX6_shocks_122 (lv_at hl 6 rfl) ?_
    refine lv_ishl hx hb dX6_shocks_124 ?_
    refine lv_goto (tgt := 129) hx hb dX6_shocks_125 (by decide) ?_
    refine lv_ior hx hb dX6_shocks_129 ?_
    refine lv_topi (fun x40 ex40 => ?_)
    have hf := qnm_t hf ex40
    refine lv_istore_n (lv' := [(2, .int x40), (0, .ref (ad 238)), (1, .int x1), (3, .int x3), (4, .int x4), (5, .int x5), (6, .int x6), (8, .int x8)]) hx hb dX6_shocks_130 rfl hl (by decide) rfl (fun ls hl => ?_)
    refine lv_goto (tgt := 172) hx hb dX6_shocks_131 (by decide) ?_
    obtain ⟨x41, ex41⟩ : ∃ y : Int32, y = x5 + 1 := ⟨_, rfl⟩
    have hf := qnm_t hf ex41
    refine lv_iinc (v := x41) (lv' := [(5, .int x41), (2, .int x40), (0, .ref (ad 238)), (1, .int x1), (3, .int x3), (4, .int x4), (6, .int x6), (8, .int x8)]) hx hb dX6_shocks_172 hl (k := 5) rfl (by rw [ex41]; rfl) (by decide) rfl (fun ls hl => ?_)
    refine lv_goto (tgt := 21) hx hb dX6_shocks_175 (by decide) ?_
    exact hk21 _ _ _ _ _ _ _ _ _ hf hR (lv_sub hl [2, 3, 1, 4, 5, 0] rfl)
def fX6_shocks_L21  (k12 : (qMem → Int32 → Int32 → Int32 → Int32 → Option (Int32 × qMem))) : Nat → qMem → Int32 → Int32 → Int32 → Int32 → Int32 → Option (Int32 × qMem)
  | 0, _, _, _, _, _, _ => none
  | n + 1, w, x1, x2, x3, x4, x5 =>
    if w 239 0 ≤ x5 then
      qnm (x4 + 1) fun (x7 : Int32) =>
      k12 w x1 x2 x3 x7
    else
      qbd (fX6_of w x5 1) fun (r9 : Int32) =>
      qbd (fX6_strengthOn w x1 r9) fun (r11 : Int32) =>
      qbd (fX6_of w x5 0) fun (r13 : Int32) =>
      if r13 = x4 then
        if (3 : Int32) ≤ x4 then
          fX6_shocks_L134 (fX6_shocks_L21 k12 n) w x1 x2 x3 x4 x5 r9 r11
        else
          if x4 = 1 then
            qbd2 (fX6_shakes w x5 r11) fun (r43 : Int32) (w44 : qMem) =>
            if r43 = 0 then
              fX6_shocks_L111 (fX6_shocks_L21 k12 n) w44 x1 x2 x3 x4 x5 r9 r43 0 (w44 238 11)
            else
              fX6_shocks_L111 (fX6_shocks_L21 k12 n) w44 x1 x2 x3 x4 x5 r9 r43 1 (w44 238 11)
          else
            qbd2 (fX6_swings w x5 r11 x1) fun (r33 : Int32) (w34 : qMem) =>
            if r33 = 0 then
              fX6_shocks_L111 (fX6_shocks_L21 k12 n) w34 x1 x2 x3 x4 x5 r9 r33 0 (w34 238 11)
            else
              fX6_shocks_L111 (fX6_shocks_L21 k12 n) w34 x1 x2 x3 x4 x5 r9 r33 1 (w34 238 11)
      else
        fX6_shocks_L134 (fX6_shocks_L21 k12 n) w x1 x2 x3 x4 x5 r9 r11
set_option maxHeartbeats 4000000 in
set_option maxRecDepth 100000 in
theorem mX6_shocks_L21 {p : Program} {l : Launch} {e : Env} {s : State} {m : MethodId} {args : Array Value} {below : List Frame} {meth : Method} {c0 : Code} {D : va_G} {G : Nat → ClassId} {ad : Nat → Nat}   {rF : Int32} {wF : qMem} {k12 : (qMem → Int32 → Int32 → Int32 → Int32 → Option (Int32 × qMem))} (hC : qCx p c0 cX6_shocks 9 s m args meth RX6 D G ad) (hr : meth.sig.returnType = some .int) (hk12 : ∀ (w : qMem) (x1 : Int32) (x2 : Int32) (x3 : Int32) (x4 : Int32) (H : Heap) (locs : List Loc) (ls : Array Slot), k12 w x1 x2 x3 x4 = some (rF, wF) → qRp D G ad s w H locs → lv_has ls 9 [(0, .ref (ad 238)), (1, .int x1), (2, .int x2), (3, .int x3), (4, .int x4)] → W p l e (qrm 4 0 0) s m args below meth c0 H locs 0 0 (MQ below (qQI D G ad s wF rF) args s 0 0 (qAdr ad s.heap.size)) (F0 m 12 ls [])) : ∀ (n : Nat), ∀ (w : qMem) (x1 : Int32) (x2 : Int32) (x3 : Int32) (x4 : Int32) (x5 : Int32) (H : Heap) (locs : List Loc) (ls : Array Slot), fX6_shocks_L21 k12 n w x1 x2 x3 x4 x5 = some (rF, wF) → qRp D G ad s w H locs → lv_has ls 9 [(0, .ref (ad 238)), (1, .int x1), (2, .int x2), (3, .int x3), (4, .int x4), (5, .int x5)] → W p l e (qrm 4 0 0) s m args below meth c0 H locs 0 0 (MQ below (qQI D G ad s wF rF) args s 0 0 (qAdr ad s.heap.size)) (F0 m 21 ls []) := by
  have hx := hC.1
  have hb := hC.2.1
  intro n
  induction n with
  | zero => intro w x1 x2 x3 x4 x5 H locs ls hf; exact nomatch (show (none : Option (Int32 × qMem)) = some _ from hf)
  | succ n ih =>
    intro w x1 x2 x3 x4 x5 H locs ls hf hR hl
    rw [fX6_shocks_L21] at hf
    refine lv_iload hx hb dX6_shocks_21 (lv_at hl 5 rfl) ?_
    refine lv_aload_n hx hb dX6_shocks_23 rfl (lv_at hl 0 rfl) ?_
    refine qget_X6_0 hC hR qk_1125 dX6_shocks_24 ?_
    refine lv_iconst (v := 0) hx hb dX6_shocks_27 (by decide) ?_
    refine q_ild hC hR (j := 0) (by decide) (qsh_239 G ad _) (by decide) (by decide) dX6_shocks_28 ?_
    refine lv_icmp_ge (tgt := 178) hx hb dX6_shocks_29 (by decide) (fun c_6 => ?_) (fun c_6 => ?_)
    · have hf := qif_t hf c_6
      obtain ⟨x7, ex7⟩ : ∃ y : Int32, y = x4 + 1 := ⟨_, rfl⟩
      have hf := qnm_t hf ex7
      refine lv_iinc (v := x7) (lv' := [(4, .int x7), (0, .ref (ad 238)), (1, .int x1), (2, .int x2), (3, .int x3), (5, .int x5)]) hx hb dX6_shocks_178 hl (k := 4) rfl (by rw [ex7]; rfl) (by decide) rfl (fun ls hl => ?_)
      refine lv_goto (tgt := 12) hx hb dX6_shocks_181 (by decide) ?_
      exact hk12 _ _ _ _ _ _ _ _ hf hR (lv_sub hl [1, 2, 3, 4, 0] rfl)
    · have hf := qif_f hf c_6
      refine lv_aload_n hx hb dX6_shocks_32 rfl (lv_at hl 0 rfl) ?_
      refine lv_iload hx hb dX6_shocks_33 (lv_at hl 5 rfl) ?_
      refine lv_iconst (v := 1) hx hb dX6_shocks_35 (by decide) ?_
      obtain ⟨r9, hq8, hf⟩ := qbd_s hf
      refine q_callVi hC hR (mX6_of (qJ hC) hq8) (by decide) (qsh_238 G ad _) rfl qk_1230 qk_1232 qk_23 qk_64 qk_1233 qhd_X6_of ⟨Nat.le_of_ble_eq_true rfl, Nat.le_of_ble_eq_true rfl⟩ hl.1 rfl (Nat.le_of_ble_eq_true rfl) dX6_shocks_36 ⟨Nat.zero_le _, Nat.zero_le _⟩ (fun H locs hR => ?_)
      refine lv_istore (lv' := [(6, .int r9), (0, .ref (ad 238)), (1, .int x1), (2, .int x2), (3, .int x3), (4, .int x4), (5, .int x5)]) hx hb dX6_shocks_39 hl (by decide) rfl (fun ls hl => ?_)
      refine lv_aload_n hx hb dX6_shocks_41 rfl (lv_at hl 1 rfl) ?_
      refine lv_iload_n hx hb dX6_shocks_42 rfl (lv_at hl 2 rfl) ?_
      refine lv_iload hx hb dX6_shocks_43 (lv_at hl 0 rfl) ?_
      obtain ⟨r11, hq10, hf⟩ := qbd_s hf
      refine q_callVi hC hR (mX6_strengthOn (qJ hC) hq10) (by decide) (qsh_238 G ad _) rfl qk_1289 qk_1291 qk_31 qk_64 qk_1292 qhd_X6_strengthOn ⟨Nat.le_of_ble_eq_true rfl, Nat.le_of_ble_eq_true rfl⟩ hl.1 rfl (Nat.le_of_ble_eq_true rfl) dX6_shocks_45 ⟨Nat.zero_le _, Nat.zero_le _⟩ (fun H locs hR => ?_)
      refine lv_istore (lv' := [(7, .int r11), (6, .int r9), (0, .ref (ad 238)), (1, .int x1), (2, .int x2), (3, .int x3), (4, .int x4), (5, .int x5)]) hx hb dX6_shocks_48 hl (by decide) rfl (fun ls hl => ?_)
      refine lv_aload_n hx hb dX6_shocks_50 rfl (lv_at hl 2 rfl) ?_
      refine lv_iload hx hb dX6_shocks_51 (lv_at hl 7 rfl) ?_
      refine lv_iconst (v := 0) hx hb dX6_shocks_53 (by decide) ?_
      obtain ⟨r13, hq12, hf⟩ := qbd_s hf
      refine q_callVi hC hR (mX6_of (qJ hC) hq12) (by decide) (qsh_238 G ad _) rfl qk_1230 qk_1232 qk_23 qk_64 qk_1233 qhd_X6_of ⟨Nat.le_of_ble_eq_true rfl, Nat.le_of_ble_eq_true rfl⟩ hl.1 rfl (Nat.le_of_ble_eq_true rfl) dX6_shocks_54 ⟨Nat.zero_le _, Nat.zero_le _⟩ (fun H locs hR => ?_)
      refine lv_iload hx hb dX6_shocks_57 (lv_at hl 6 rfl) ?_
      refine lv_icmp_ne (tgt := 134) hx hb dX6_shocks_59 (by decide) (fun c_14 => ?_) (fun c_14 => ?_)
      · have hf := qif_f hf c_14
        exact mX6_shocks_L134 hC hr (ih) _ _ _ _ _ _ _ _ _ _ _ hf hR (lv_sub hl [2, 3, 4, 5, 6, 7, 1, 0] rfl)
      · have hf := qif_t hf c_14
        refine lv_iload hx hb dX6_shocks_62 (lv_at hl 6 rfl) ?_
        refine lv_iconst (v := 3) hx hb dX6_shocks_64 (by decide) ?_
        refine lv_icmp_ge (tgt := 134) hx hb dX6_shocks_65 (by decide) (fun c_30 => ?_) (fun c_30 => ?_)
        · have hf := qif_t hf c_30
          exact mX6_shocks_L134 hC hr (ih) _ _ _ _ _ _ _ _ _ _ _ hf hR (lv_sub hl [2, 3, 4, 5, 6, 7, 1, 0] rfl)
        · have hf := qif_f hf c_30
          refine lv_iload hx hb dX6_shocks_68 (lv_at hl 6 rfl) ?_
          refine lv_iconst (v := 1) hx hb dX6_shocks_70 (by decide) ?_
          refine lv_icmp_ne (tgt := 85) hx hb dX6_shocks_71 (by decide) (fun c_31 => ?_) (fun c_31 => ?_)
          · have hf := qif_f hf c_31
            refine lv_aload_n hx hb dX6_shocks_85 rfl (lv_at hl 2 rfl) ?_
            refine lv_iload hx hb dX6_shocks_86 (lv_at hl 7 rfl) ?_
            refine lv_iload hx hb dX6_shocks_88 (lv_at hl 0 rfl) ?_
            refine lv_iload_n hx hb dX6_shocks_90 rfl (lv_at hl 3 rfl) ?_
            obtain ⟨r33, w34, hq32, hf⟩ := qbd2_s hf
            refine q_callVi hC hR (mX6_swings (qJ hC) hq32) (by decide) (qsh_238 G ad _) rfl qk_1300 qk_1302 qk_33 qk_64 qk_1303 qhd_X6_swings ⟨Nat.le_of_ble_eq_true rfl, Nat.le_of_ble_eq_true rfl⟩ hl.1 rfl (Nat.le_of_ble_eq_true rfl) dX6_shocks_91 ⟨Nat.zero_le _, Nat.zero_le _⟩ (fun H locs hR => ?_)
            refine lv_istore (lv' := [(8, .int r33), (7, .int r11), (6, .int r9), (0, .ref (ad 238)), (1, .int x1), (2, .int x2), (3, .int x3), (4, .int x4), (5, .int x5)]) hx hb dX6_shocks_94 hl (by decide) rfl (fun ls hl => ?_)
            refine lv_aload_n hx hb dX6_shocks_96 rfl (lv_at hl 3 rfl) ?_
            refine lv_dup hx hb dX6_shocks_97 rfl ?_
            refine qget_X6_11 hC hR qk_1136 dX6_shocks_98 ?_
            refine lv_iload hx hb dX6_shocks_101 (lv_at hl 0 rfl) ?_
            refine lv_if_eq (tgt := 110) hx hb dX6_shocks_103 (by decide) (fun c_35 => ?_) (fun c_35 => ?_)
            · have hf := qif_t hf c_35
              refine lv_iconst (v := 0) hx hb dX6_shocks_110 (by decide) ?_
              exact mX6_shocks_L111 hC hr (ih) _ _ _ _ _ _ _ _ _ _ _ _ _ hf hR (lv_sub hl [3, 4, 5, 6, 7, 8, 2, 0] rfl)
            · have hf := qif_f hf c_35
              refine lv_iconst (v := 1) hx hb dX6_shocks_106 (by decide) ?_
              refine lv_goto (tgt := 111) hx hb dX6_shocks_107 (by decide) ?_
              exact mX6_shocks_L111 hC hr (ih) _ _ _ _ _ _ _ _ _ _ _ _ _ hf hR (lv_sub hl [3, 4, 5, 6, 7, 8, 2, 0] rfl)
          · have hf := qif_t hf c_31
            refine lv_aload_n hx hb dX6_shocks_74 rfl (lv_at hl 2 rfl) ?_
            refine lv_iload hx hb dX6_shocks_75 (lv_at hl 7 rfl) ?_
            refine lv_iload hx hb dX6_shocks_77 (lv_at hl 0 rfl) ?_
            obtain ⟨r43, w44, hq42, hf⟩ := qbd2_s hf
            refine q_callVi hC hR (mX6_shakes (qJ hC) hq42) (by decide) (qsh_238 G ad _) rfl qk_1296 qk_1298 qk_32 qk_64 qk_1299 qhd_X6_shakes ⟨Nat.le_of_ble_eq_true rfl, Nat.le_of_ble_eq_true rfl⟩ hl.1 rfl (Nat.le_of_ble_eq_true rfl) dX6_shocks_79 ⟨Nat.zero_le _, Nat.zero_le _⟩ (fun H locs hR => ?_)
            refine lv_goto (tgt := 94) hx hb dX6_shocks_82 (by decide) ?_
            refine lv_istore (lv' := [(8, .int r43), (7, .int r11), (6, .int r9), (0, .ref (ad 238)), (1, .int x1), (2, .int x2), (3, .int x3), (4, .int x4), (5, .int x5)]) hx hb dX6_shocks_94 hl (by decide) rfl (fun ls hl => ?_)
            refine lv_aload_n hx hb dX6_shocks_96 rfl (lv_at hl 3 rfl) ?_
            refine lv_dup hx hb dX6_shocks_97 rfl ?_
            refine qget_X6_11 hC hR qk_1136 dX6_shocks_98 ?_
            refine lv_iload hx hb dX6_shocks_101 (lv_at hl 0 rfl) ?_
            refine lv_if_eq (tgt := 110) hx hb dX6_shocks_103 (by decide) (fun c_45 => ?_) (fun c_45 => ?_)
            · have hf := qif_t hf c_45
              refine lv_iconst (v := 0) hx hb dX6_shocks_110 (by decide) ?_
              exact mX6_shocks_L111 hC hr (ih) _ _ _ _ _ _ _ _ _ _ _ _ _ hf hR (lv_sub hl [3, 4, 5, 6, 7, 8, 2, 0] rfl)
            · have hf := qif_f hf c_45
              refine lv_iconst (v := 1) hx hb dX6_shocks_106 (by decide) ?_
              refine lv_goto (tgt := 111) hx hb dX6_shocks_107 (by decide) ?_
              exact mX6_shocks_L111 hC hr (ih) _ _ _ _ _ _ _ _ _ _ _ _ _ hf hR (lv_sub hl [3, 4, 5, 6, 7, 8, 2, 0] rfl)
def fX6_shocks_L12   : Nat → qMem → Int32 → Int32 → Int32 → Int32 → Option (Int32 × qMem)
  | 0, _, _, _, _, _ => none
  | n + 1, w, x1, x2, x3, x4 =>
    if (3 : Int32) < x4 then
      qnm (quw w 239 2 ((w 239 2) + 1)) fun (w3 : qMem) =>
      qnm (quw w3 239 4 ((w3 239 4) + x3)) fun (w4 : qMem) =>
      qnm (quw w4 239 5 ((w4 239 5) + (w4 238 11))) fun (w5 : qMem) =>
      some (x3, w5)
    else
      fX6_shocks_L21 (fX6_shocks_L12 n) 100 w x1 x2 x3 x4 0
set_option maxHeartbeats 4000000 in
set_option maxRecDepth 100000 in
theorem mX6_shocks_L12 {p : Program} {l : Launch} {e : Env} {s : State} {m : MethodId} {args : Array Value} {below : List Frame} {meth : Method} {c0 : Code} {D : va_G} {G : Nat → ClassId} {ad : Nat → Nat}   {rF : Int32} {wF : qMem}  (hC : qCx p c0 cX6_shocks 9 s m args meth RX6 D G ad) (hr : meth.sig.returnType = some .int)  : ∀ (n : Nat), ∀ (w : qMem) (x1 : Int32) (x2 : Int32) (x3 : Int32) (x4 : Int32) (H : Heap) (locs : List Loc) (ls : Array Slot), fX6_shocks_L12 n w x1 x2 x3 x4 = some (rF, wF) → qRp D G ad s w H locs → lv_has ls 9 [(0, .ref (ad 238)), (1, .int x1), (2, .int x2), (3, .int x3), (4, .int x4)] → W p l e (qrm 4 0 0) s m args below meth c0 H locs 0 0 (MQ below (qQI D G ad s wF rF) args s 0 0 (qAdr ad s.heap.size)) (F0 m 12 ls []) := by
  have hx := hC.1
  have hb := hC.2.1
  intro n
  induction n with
  | zero => intro w x1 x2 x3 x4 H locs ls hf; exact nomatch (show (none : Option (Int32 × qMem)) = some _ from hf)
  | succ n ih =>
    intro w x1 x2 x3 x4 H locs ls hf hR hl
    rw [fX6_shocks_L12] at hf
    refine lv_iload hx hb dX6_shocks_12 (lv_at hl 4 rfl) ?_
    refine lv_iconst (v := 3) hx hb dX6_shocks_14 (by decide) ?_
    refine lv_icmp_gt (tgt := 184) hx hb dX6_shocks_15 (by decide) (fun c_2 => ?_) (fun c_2 => ?_)
    · have hf := qif_t hf c_2
      refine lv_aload_n hx hb dX6_shocks_184 rfl (lv_at hl 0 rfl) ?_
      refine qget_X6_0 hC hR qk_1125 dX6_shocks_185 ?_
      refine lv_iconst (v := 2) hx hb dX6_shocks_188 (by decide) ?_
      refine lv_dup2_11 hx hb dX6_shocks_189 rfl rfl ?_
      refine q_ild hC hR (j := 2) (by decide) (qsh_239 G ad _) (by decide) (by decide) dX6_shocks_190 ?_
      refine lv_iconst (v := 1) hx hb dX6_shocks_191 (by decide) ?_
      refine lv_iadd hx hb dX6_shocks_192 ?_
      refine q_ist hC hR (j := 2) (by decide) (fun f => qsh_239 G ad f) (by decide) (by decide) dX6_shocks_193 (fun w3 H locs ew3 hR => ?_)
      have hf := qnm_t hf ew3
      refine lv_aload_n hx hb dX6_shocks_194 rfl (lv_at hl 0 rfl) ?_
      refine qget_X6_0 hC hR qk_1125 dX6_shocks_195 ?_
      refine lv_iconst (v := 4) hx hb dX6_shocks_198 (by decide) ?_
      refine lv_dup2_11 hx hb dX6_shocks_199 rfl rfl ?_
      refine q_ild hC hR (j := 4) (by decide) (qsh_239 G ad _) (by decide) (by decide) dX6_shocks_200 ?_
      refine lv_iload_n hx hb dX6_shocks_201 rfl (lv_at hl 3 rfl) ?_
      refine lv_iadd hx hb dX6_shocks_202 ?_
      refine q_ist hC hR (j := 4) (by decide) (fun f => qsh_239 G ad f) (by decide) (by decide) dX6_shocks_203 (fun w4 H locs ew4 hR => ?_)
      have hf := qnm_t hf ew4
      refine lv_aload_n hx hb dX6_shocks_204 rfl (lv_at hl 0 rfl) ?_
      refine qget_X6_0 hC hR qk_1125 dX6_shocks_205 ?_
      refine lv_iconst (v := 5) hx hb dX6_shocks_208 (by decide) ?_
      refine lv_dup2_11 hx hb dX6_shocks_209 rfl rfl ?_
      refine q_ild hC hR (j := 5) (by decide) (qsh_239 G ad _) (by decide) (by decide) dX6_shocks_210 ?_
      refine lv_aload_n hx hb dX6_shocks_211 rfl (lv_at hl 0 rfl) ?_
      refine qget_X6_11 hC hR qk_1136 dX6_shocks_212 ?_
      refine lv_iadd hx hb dX6_shocks_215 ?_
      refine q_ist hC hR (j := 5) (by decide) (fun f => qsh_239 G ad f) (by decide) (by decide) dX6_shocks_216 (fun w5 H locs ew5 hR => ?_)
      have hf := qnm_t hf ew5
      refine lv_iload_n hx hb dX6_shocks_217 rfl (lv_at hl 3 rfl) ?_
      exact q_iret hC hR hr rfl (qso2 hf).1 (qso2 hf).2 dX6_shocks_218
    · have hf := qif_f hf c_2
      refine lv_iconst (v := 0) hx hb dX6_shocks_18 (by decide) ?_
      refine lv_istore (lv' := [(5, .int 0), (0, .ref (ad 238)), (1, .int x1), (2, .int x2), (3, .int x3), (4, .int x4)]) hx hb dX6_shocks_19 hl (by decide) rfl (fun ls hl => ?_)
      exact mX6_shocks_L21 hC hr (ih) 100 _ _ _ _ _ _ _ _ _ hf hR (lv_sub hl [1, 2, 3, 4, 5, 0] rfl)
def fX6_shocks (w : qMem)  (a1 : Int32) : Option (Int32 × qMem) :=
  qnm (quw w 238 11 0) fun (w1 : qMem) =>
  fX6_shocks_L12 100 w1 a1 0 0 1
theorem qhd_X6_shocks : yX6_shocks.cls ≠ "java/lang/invoke/MethodHandle" ∧ yX6_shocks.cls ≠ "java/lang/invoke/VarHandle" ∧ (parseMethodDescriptor yX6_shocks.desc).map (fun d => d.parameters.length) = some 1 := ⟨by decide +kernel, by decide +kernel, by decide +kernel⟩
set_option maxHeartbeats 4000000 in
set_option maxRecDepth 100000 in
theorem mX6_shocks {l : Launch} {D : va_G} {G : Nat → ClassId} {ad : Nat → Nat} (hJ : qInj ad) {w : qMem}   {a1 : Int32} {rF : Int32} {wF : qMem} (hf : fX6_shocks w a1 = some (rF, wF)) : qCMi l D G ad yX6_shocks cX6_shocks 9 (some .int) 4 0 0 [.ref (ad 238), .int a1] w rF wF := by
  refine q_start RX6 rfl (by decide +kernel) hJ (fun a b h => by simp only [qQI, qQV, qQR, h]) (Nat.le_of_ble_eq_true rfl) ?_
  intro p e s m args below meth c0 ls hC hr hR hl
  have hx := hC.1
  have hb := hC.2.1
  have hl : lv_has ls 9 [(0, .ref (ad 238)), (1, .int a1)] := hl
  unfold fX6_shocks at hf
  refine lv_iconst (v := 0) hx hb dX6_shocks_0 (by decide) ?_
  refine lv_istore_n (lv' := [(2, .int 0), (0, .ref (ad 238)), (1, .int a1)]) hx hb dX6_shocks_1 rfl hl (by decide) rfl (fun ls hl => ?_)
  refine lv_iconst (v := 0) hx hb dX6_shocks_2 (by decide) ?_
  refine lv_istore_n (lv' := [(3, .int 0), (2, .int 0), (0, .ref (ad 238)), (1, .int a1)]) hx hb dX6_shocks_3 rfl hl (by decide) rfl (fun ls hl => ?_)
  refine lv_aload_n hx hb dX6_shocks_4 rfl (lv_at hl 2 rfl) ?_
  refine lv_iconst (v := 0) hx hb dX6_shocks_5 (by decide) ?_
  refine qput_X6_11 hC hR qk_1136 ⟨rfl, rfl⟩ dX6_shocks_6 (fun w1 H locs ew1 hR => ?_)
  have hf := qnm_t hf ew1
  refine lv_iconst (v := 1) hx hb dX6_shocks_9 (by decide) ?_
  refine lv_istore (lv' := [(4, .int 1), (3, .int 0), (2, .int 0), (0, .ref (ad 238)), (1, .int a1)]) hx hb dX6_shocks_10 hl (by decide) rfl (fun ls hl => ?_)
  exact mX6_shocks_L12 hC hr 100 _ _ _ _ _ _ _ _ hf hR (lv_sub hl [3, 4, 2, 1, 0] rfl)
-- X6.shock
def fX6_shock (w : qMem)   : Option (Int32 × qMem) :=
  qbd (fX6_keep w) fun (w2 : qMem) =>
  qbd2 (fX6_shocks w2 (w2 239 1)) fun (r4 : Int32) (w5 : qMem) =>
  qbd2 (fX6_ends w5 r4) fun (r7 : Int32) (w8 : qMem) =>
  some (r7, w8)
theorem qhd_X6_shock : yX6_shock.cls ≠ "java/lang/invoke/MethodHandle" ∧ yX6_shock.cls ≠ "java/lang/invoke/VarHandle" ∧ (parseMethodDescriptor yX6_shock.desc).map (fun d => d.parameters.length) = some 0 := ⟨by decide +kernel, by decide +kernel, by decide +kernel⟩
set_option maxHeartbeats 4000000 in
set_option maxRecDepth 100000 in
theorem mX6_shock {l : Launch} {D : va_G} {G : Nat → ClassId} {ad : Nat → Nat} (hJ : qInj ad) {w : qMem}    {rF : Int32} {wF : qMem} (hf : fX6_shock w = some (rF, wF)) : qCMi l D G ad yX6_shock cX6_shock 1 (some .int) 5 0 0 [.ref (ad 238)] w rF wF := by
  refine q_start RX6 rfl (by decide +kernel) hJ (fun a b h => by simp only [qQI, qQV, qQR, h]) (Nat.le_of_ble_eq_true rfl) ?_
  intro p e s m args below meth c0 ls hC hr hR hl
  have hx := hC.1
  have hb := hC.2.1
  have hl : lv_has ls 1 [(0, .ref (ad 238))] := hl
  unfold fX6_shock at hf
  refine lv_aload_n hx hb dX6_shock_0 rfl (lv_at hl 0 rfl) ?_
  obtain ⟨w2, hq1, hf⟩ := qbd_s hf
  refine q_callVv hC hR (mX6_keep (qJ hC) hq1) (by decide) (qsh_238 G ad _) rfl qk_1201 qk_1203 qk_18 qk_64 qk_1204 qhd_X6_keep ⟨Nat.le_of_ble_eq_true rfl, Nat.le_of_ble_eq_true rfl⟩ hl.1 rfl (Nat.le_of_ble_eq_true rfl) dX6_shock_1 ⟨Nat.zero_le _, Nat.zero_le _⟩ (fun H locs hR => ?_)
  refine lv_aload_n hx hb dX6_shock_4 rfl (lv_at hl 0 rfl) ?_
  refine lv_aload_n hx hb dX6_shock_5 rfl (lv_at hl 0 rfl) ?_
  refine lv_aload_n hx hb dX6_shock_6 rfl (lv_at hl 0 rfl) ?_
  refine qget_X6_0 hC hR qk_1125 dX6_shock_7 ?_
  refine lv_iconst (v := 1) hx hb dX6_shock_10 (by decide) ?_
  refine q_ild hC hR (j := 1) (by decide) (qsh_239 G ad _) (by decide) (by decide) dX6_shock_11 ?_
  obtain ⟨r4, w5, hq3, hf⟩ := qbd2_s hf
  refine q_callVi hC hR (mX6_shocks (qJ hC) hq3) (by decide) (qsh_238 G ad _) rfl qk_1285 qk_1287 qk_30 qk_64 qk_1288 qhd_X6_shocks ⟨Nat.le_of_ble_eq_true rfl, Nat.le_of_ble_eq_true rfl⟩ hl.1 rfl (Nat.le_of_ble_eq_true rfl) dX6_shock_12 ⟨Nat.zero_le _, Nat.zero_le _⟩ (fun H locs hR => ?_)
  obtain ⟨r7, w8, hq6, hf⟩ := qbd2_s hf
  refine q_callVi hC hR (mX6_ends (qJ hC) hq6) (by decide) (qsh_238 G ad _) rfl qk_1238 qk_1240 qk_25 qk_64 qk_1241 qhd_X6_ends ⟨Nat.le_of_ble_eq_true rfl, Nat.le_of_ble_eq_true rfl⟩ hl.1 rfl (Nat.le_of_ble_eq_true rfl) dX6_shock_15 ⟨Nat.zero_le _, Nat.zero_le _⟩ (fun H locs hR => ?_)
  exact q_iret hC hR hr rfl (qso2 hf).1 (qso2 hf).2 dX6_shock_18
-- X6.doAdd
def fX6_doAdd (w : qMem)  (a1 : Int32) : Option (Int32 × qMem) :=
  qnm (w 239 6) fun (x1 : Int32) =>
  qbd (fX6_isStrength w a1) fun (r3 : Int32) =>
  if r3 = 0 then
    qbd2 (fX6_fails w 1) fun (r13 : Int32) (w14 : qMem) =>
    some (r13, w14)
  else
    if x1 = 8 then
      qbd2 (fX6_refuse w 2 1 8) fun (r10 : Int32) (w11 : qMem) =>
      some (r10, w11)
    else
      if qin (7 + x1) 99 = true then
      qnm (quw w 239 (7 + x1).toNatClampNeg a1) fun (w7 : qMem) =>
      qnm (quw w7 239 6 ((w7 239 6) + 1)) fun (w8 : qMem) =>
      some (x1 + 1, w8)
      else none
theorem qhd_X6_doAdd : yX6_doAdd.cls ≠ "java/lang/invoke/MethodHandle" ∧ yX6_doAdd.cls ≠ "java/lang/invoke/VarHandle" ∧ (parseMethodDescriptor yX6_doAdd.desc).map (fun d => d.parameters.length) = some 1 := ⟨by decide +kernel, by decide +kernel, by decide +kernel⟩
set_option maxHeartbeats 4000000 in
set_option maxRecDepth 100000 in
theorem mX6_doAdd {l : Launch} {D : va_G} {G : Nat → ClassId} {ad : Nat → Nat} (hJ : qInj ad) {w : qMem}   {a1 : Int32} {rF : Int32} {wF : qMem} (hf : fX6_doAdd w a1 = some (rF, wF)) : qCMi l D G ad yX6_doAdd cX6_doAdd 3 (some .int) 3 0 0 [.ref (ad 238), .int a1] w rF wF := by
  refine q_start RX6 rfl (by decide +kernel) hJ (fun a b h => by simp only [qQI, qQV, qQR, h]) (Nat.le_of_ble_eq_true rfl) ?_
  intro p e s m args below meth c0 ls hC hr hR hl
  have hx := hC.1
  have hb := hC.2.1
  have hl : lv_has ls 3 [(0, .ref (ad 238)), (1, .int a1)] := hl
  unfold fX6_doAdd at hf
  refine lv_aload_n hx hb dX6_doAdd_0 rfl (lv_at hl 0 rfl) ?_
  refine qget_X6_0 hC hR qk_1125 dX6_doAdd_1 ?_
  refine lv_bipush (v := 6) hx hb dX6_doAdd_4 (by decide) ?_
  refine q_ild hC hR (j := 6) (by decide) (qsh_239 G ad _) (by decide) (by decide) dX6_doAdd_6 ?_
  refine lv_topi (fun x1 ex1 => ?_)
  have hf := qnm_t hf ex1
  refine lv_istore_n (lv' := [(2, .int x1), (0, .ref (ad 238)), (1, .int a1)]) hx hb dX6_doAdd_7 rfl hl (by decide) rfl (fun ls hl => ?_)
  refine lv_iload_n hx hb dX6_doAdd_8 rfl (lv_at hl 2 rfl) ?_
  obtain ⟨r3, hq2, hf⟩ := qbd_s hf
  refine q_callSi hC hR (mX6_isStrength (qJ hC) hq2) qk_1278 qk_1279 qk_64 qk_1280 qhd_X6_isStrength ⟨Nat.le_of_ble_eq_true rfl, Nat.le_of_ble_eq_true rfl⟩ hl.1 rfl (Nat.le_of_ble_eq_true rfl) dX6_doAdd_9 ⟨Nat.zero_le _, Nat.zero_le _⟩ (fun H locs hR => ?_)
  refine lv_if_ne (tgt := 21) hx hb dX6_doAdd_12 (by decide) (fun c_4 => ?_) (fun c_4 => ?_)
  · have hf := qif_f hf c_4
    refine lv_iload_n hx hb dX6_doAdd_21 rfl (lv_at hl 0 rfl) ?_
    refine lv_bipush (v := 8) hx hb dX6_doAdd_22 (by decide) ?_
    refine lv_icmp_ne (tgt := 36) hx hb dX6_doAdd_24 (by decide) (fun c_5 => ?_) (fun c_5 => ?_)
    · have hf := qif_f hf c_5
      refine lv_aload_n hx hb dX6_doAdd_36 rfl (lv_at hl 1 rfl) ?_
      refine qget_X6_0 hC hR qk_1125 dX6_doAdd_37 ?_
      refine lv_bipush (v := 7) hx hb dX6_doAdd_40 (by decide) ?_
      refine lv_iload_n hx hb dX6_doAdd_42 rfl (lv_at hl 0 rfl) ?_
      refine lv_iadd hx hb dX6_doAdd_43 ?_
      refine lv_iload_n hx hb dX6_doAdd_44 rfl (lv_at hl 2 rfl) ?_
      obtain ⟨g6, hf⟩ := qgd hf
      refine q_ist hC hR (j := (7 + x1).toNatClampNeg) (by decide) (fun f => qsh_239 G ad f) g6 rfl dX6_doAdd_45 (fun w7 H locs ew7 hR => ?_)
      have hf := qnm_t hf ew7
      refine lv_aload_n hx hb dX6_doAdd_46 rfl (lv_at hl 1 rfl) ?_
      refine qget_X6_0 hC hR qk_1125 dX6_doAdd_47 ?_
      refine lv_bipush (v := 6) hx hb dX6_doAdd_50 (by decide) ?_
      refine lv_dup2_11 hx hb dX6_doAdd_52 rfl rfl ?_
      refine q_ild hC hR (j := 6) (by decide) (qsh_239 G ad _) (by decide) (by decide) dX6_doAdd_53 ?_
      refine lv_iconst (v := 1) hx hb dX6_doAdd_54 (by decide) ?_
      refine lv_iadd hx hb dX6_doAdd_55 ?_
      refine q_ist hC hR (j := 6) (by decide) (fun f => qsh_239 G ad f) (by decide) (by decide) dX6_doAdd_56 (fun w8 H locs ew8 hR => ?_)
      have hf := qnm_t hf ew8
      refine lv_iload_n hx hb dX6_doAdd_57 rfl (lv_at hl 0 rfl) ?_
      refine lv_iconst (v := 1) hx hb dX6_doAdd_58 (by decide) ?_
      refine lv_iadd hx hb dX6_doAdd_59 ?_
      exact q_iret hC hR hr rfl (qso2 hf).1 (qso2 hf).2 dX6_doAdd_60
    · have hf := qif_t hf c_5
      refine lv_aload_n hx hb dX6_doAdd_27 rfl (lv_at hl 1 rfl) ?_
      refine lv_iconst (v := 2) hx hb dX6_doAdd_28 (by decide) ?_
      refine lv_iconst (v := 1) hx hb dX6_doAdd_29 (by decide) ?_
      refine lv_bipush (v := 8) hx hb dX6_doAdd_30 (by decide) ?_
      obtain ⟨r10, w11, hq9, hf⟩ := qbd2_s hf
      refine q_callVi hC hR (mX6_refuse (qJ hC) hq9) (by decide) (qsh_238 G ad _) rfl qk_1222 qk_1224 qk_21 qk_64 qk_1225 qhd_X6_refuse ⟨Nat.le_of_ble_eq_true rfl, Nat.le_of_ble_eq_true rfl⟩ hl.1 rfl (Nat.le_of_ble_eq_true rfl) dX6_doAdd_32 ⟨Nat.zero_le _, Nat.zero_le _⟩ (fun H locs hR => ?_)
      exact q_iret hC hR hr rfl (qso2 hf).1 (qso2 hf).2 dX6_doAdd_35
  · have hf := qif_t hf c_4
    refine lv_aload_n hx hb dX6_doAdd_15 rfl (lv_at hl 1 rfl) ?_
    refine lv_iconst (v := 1) hx hb dX6_doAdd_16 (by decide) ?_
    obtain ⟨r13, w14, hq12, hf⟩ := qbd2_s hf
    refine q_callVi hC hR (mX6_fails (qJ hC) hq12) (by decide) (qsh_238 G ad _) rfl qk_1218 qk_1220 qk_20 qk_64 qk_1221 qhd_X6_fails ⟨Nat.le_of_ble_eq_true rfl, Nat.le_of_ble_eq_true rfl⟩ hl.1 rfl (Nat.le_of_ble_eq_true rfl) dX6_doAdd_17 ⟨Nat.zero_le _, Nat.zero_le _⟩ (fun H locs hR => ?_)
    exact q_iret hC hR hr rfl (qso2 hf).1 (qso2 hf).2 dX6_doAdd_20
-- X6.add
def fX6_add (w : qMem)  (a1 : Int32) : Option (Int32 × qMem) :=
  qbd (fX6_keep w) fun (w2 : qMem) =>
  qbd2 (fX6_doAdd w2 a1) fun (r4 : Int32) (w5 : qMem) =>
  qbd2 (fX6_ends w5 r4) fun (r7 : Int32) (w8 : qMem) =>
  some (r7, w8)
theorem qhd_X6_add : yX6_add.cls ≠ "java/lang/invoke/MethodHandle" ∧ yX6_add.cls ≠ "java/lang/invoke/VarHandle" ∧ (parseMethodDescriptor yX6_add.desc).map (fun d => d.parameters.length) = some 1 := ⟨by decide +kernel, by decide +kernel, by decide +kernel⟩
set_option maxHeartbeats 4000000 in
set_option maxRecDepth 100000 in
theorem mX6_add {l : Launch} {D : va_G} {G : Nat → ClassId} {ad : Nat → Nat} (hJ : qInj ad) {w : qMem}   {a1 : Int32} {rF : Int32} {wF : qMem} (hf : fX6_add w a1 = some (rF, wF)) : qCMi l D G ad yX6_add cX6_add 2 (some .int) 4 0 0 [.ref (ad 238), .int a1] w rF wF := by
  refine q_start RX6 rfl (by decide +kernel) hJ (fun a b h => by simp only [qQI, qQV, qQR, h]) (Nat.le_of_ble_eq_true rfl) ?_
  intro p e s m args below meth c0 ls hC hr hR hl
  have hx := hC.1
  have hb := hC.2.1
  have hl : lv_has ls 2 [(0, .ref (ad 238)), (1, .int a1)] := hl
  unfold fX6_add at hf
  refine lv_aload_n hx hb dX6_add_0 rfl (lv_at hl 0 rfl) ?_
  obtain ⟨w2, hq1, hf⟩ := qbd_s hf
  refine q_callVv hC hR (mX6_keep (qJ hC) hq1) (by decide) (qsh_238 G ad _) rfl qk_1201 qk_1203 qk_18 qk_64 qk_1204 qhd_X6_keep ⟨Nat.le_of_ble_eq_true rfl, Nat.le_of_ble_eq_true rfl⟩ hl.1 rfl (Nat.le_of_ble_eq_true rfl) dX6_add_1 ⟨Nat.zero_le _, Nat.zero_le _⟩ (fun H locs hR => ?_)
  refine lv_aload_n hx hb dX6_add_4 rfl (lv_at hl 0 rfl) ?_
  refine lv_aload_n hx hb dX6_add_5 rfl (lv_at hl 0 rfl) ?_
  refine lv_iload_n hx hb dX6_add_6 rfl (lv_at hl 1 rfl) ?_
  obtain ⟨r4, w5, hq3, hf⟩ := qbd2_s hf
  refine q_callVi hC hR (mX6_doAdd (qJ hC) hq3) (by decide) (qsh_238 G ad _) rfl qk_1313 qk_1315 qk_35 qk_64 qk_1316 qhd_X6_doAdd ⟨Nat.le_of_ble_eq_true rfl, Nat.le_of_ble_eq_true rfl⟩ hl.1 rfl (Nat.le_of_ble_eq_true rfl) dX6_add_7 ⟨Nat.zero_le _, Nat.zero_le _⟩ (fun H locs hR => ?_)
  obtain ⟨r7, w8, hq6, hf⟩ := qbd2_s hf
  refine q_callVi hC hR (mX6_ends (qJ hC) hq6) (by decide) (qsh_238 G ad _) rfl qk_1238 qk_1240 qk_25 qk_64 qk_1241 qhd_X6_ends ⟨Nat.le_of_ble_eq_true rfl, Nat.le_of_ble_eq_true rfl⟩ hl.1 rfl (Nat.le_of_ble_eq_true rfl) dX6_add_10 ⟨Nat.zero_le _, Nat.zero_le _⟩ (fun H locs hR => ?_)
  exact q_iret hC hR hr rfl (qso2 hf).1 (qso2 hf).2 dX6_add_13
-- X6.doPerform
def fX6_doPerform_L33   : Nat → qMem → Int32 → Int32 → Int32 → Option (Int32 × qMem)
  | 0, _, _, _, _ => none
  | n + 1, w, x1, x2, x3 =>
    if w 239 6 ≤ x3 then
      qnm (quw w 239 3 ((w 239 3) + x1)) fun (w5 : qMem) =>
      qnm (quw w5 239 6 0) fun (w6 : qMem) =>
      some (x1, w6)
    else
      if qin (7 + x3) 99 = true then
      qnm (w 239 (7 + x3).toNatClampNeg) fun (x8 : Int32) =>
      qbd2 (fX6_shocks w x8) fun (r10 : Int32) (w11 : qMem) =>
      if x2 ≤ 0 then
        qnm (x3 + 1) fun (x13 : Int32) =>
        fX6_doPerform_L33 n w11 x1 x2 x13
      else
        if r10 < 3 * x2 then
          qnm (x3 + 1) fun (x15 : Int32) =>
          fX6_doPerform_L33 n w11 x1 x2 x15
        else
          if x8 ≤ 1 then
            qnm (x3 + 1) fun (x17 : Int32) =>
            fX6_doPerform_L33 n w11 x1 x2 x17
          else
            qbd2 (fX6_shocks w11 (x8 / 2)) fun (r19 : Int32) (w20 : qMem) =>
            qnm (x1 + 1) fun (x21 : Int32) =>
            qnm (x3 + 1) fun (x22 : Int32) =>
            fX6_doPerform_L33 n w20 x21 x2 x22
      else none
set_option maxHeartbeats 4000000 in
set_option maxRecDepth 100000 in
theorem mX6_doPerform_L33 {p : Program} {l : Launch} {e : Env} {s : State} {m : MethodId} {args : Array Value} {below : List Frame} {meth : Method} {c0 : Code} {D : va_G} {G : Nat → ClassId} {ad : Nat → Nat}   {rF : Int32} {wF : qMem}  (hC : qCx p c0 cX6_doPerform 7 s m args meth RX6 D G ad) (hr : meth.sig.returnType = some .int)  : ∀ (n : Nat), ∀ (w : qMem) (x1 : Int32) (x2 : Int32) (x3 : Int32) (H : Heap) (locs : List Loc) (ls : Array Slot), fX6_doPerform_L33 n w x1 x2 x3 = some (rF, wF) → qRp D G ad s w H locs → lv_has ls 7 [(0, .ref (ad 238)), (1, .int x1), (2, .int x2), (3, .int x3)] → W p l e (qrm 5 0 0) s m args below meth c0 H locs 0 0 (MQ below (qQI D G ad s wF rF) args s 0 0 (qAdr ad s.heap.size)) (F0 m 33 ls []) := by
  have hx := hC.1
  have hb := hC.2.1
  intro n
  induction n with
  | zero => intro w x1 x2 x3 H locs ls hf; exact nomatch (show (none : Option (Int32 × qMem)) = some _ from hf)
  | succ n ih =>
    intro w x1 x2 x3 H locs ls hf hR hl
    rw [fX6_doPerform_L33] at hf
    refine lv_iload_n hx hb dX6_doPerform_33 rfl (lv_at hl 3 rfl) ?_
    refine lv_aload_n hx hb dX6_doPerform_34 rfl (lv_at hl 0 rfl) ?_
    refine qget_X6_0 hC hR qk_1125 dX6_doPerform_35 ?_
    refine lv_bipush (v := 6) hx hb dX6_doPerform_38 (by decide) ?_
    refine q_ild hC hR (j := 6) (by decide) (qsh_239 G ad _) (by decide) (by decide) dX6_doPerform_40 ?_
    refine lv_icmp_ge (tgt := 100) hx hb dX6_doPerform_41 (by decide) (fun c_4 => ?_) (fun c_4 => ?_)
    · have hf := qif_t hf c_4
      refine lv_aload_n hx hb dX6_doPerform_100 rfl (lv_at hl 0 rfl) ?_
      refine qget_X6_0 hC hR qk_1125 dX6_doPerform_101 ?_
      refine lv_iconst (v := 3) hx hb dX6_doPerform_104 (by decide) ?_
      refine lv_dup2_11 hx hb dX6_doPerform_105 rfl rfl ?_
      refine q_ild hC hR (j := 3) (by decide) (qsh_239 G ad _) (by decide) (by decide) dX6_doPerform_106 ?_
      refine lv_iload_n hx hb dX6_doPerform_107 rfl (lv_at hl 1 rfl) ?_
      refine lv_iadd hx hb dX6_doPerform_108 ?_
      refine q_ist hC hR (j := 3) (by decide) (fun f => qsh_239 G ad f) (by decide) (by decide) dX6_doPerform_109 (fun w5 H locs ew5 hR => ?_)
      have hf := qnm_t hf ew5
      refine lv_aload_n hx hb dX6_doPerform_110 rfl (lv_at hl 0 rfl) ?_
      refine qget_X6_0 hC hR qk_1125 dX6_doPerform_111 ?_
      refine lv_bipush (v := 6) hx hb dX6_doPerform_114 (by decide) ?_
      refine lv_iconst (v := 0) hx hb dX6_doPerform_116 (by decide) ?_
      refine q_ist hC hR (j := 6) (by decide) (fun f => qsh_239 G ad f) (by decide) (by decide) dX6_doPerform_117 (fun w6 H locs ew6 hR => ?_)
      have hf := qnm_t hf ew6
      refine lv_iload_n hx hb dX6_doPerform_118 rfl (lv_at hl 1 rfl) ?_
      exact q_iret hC hR hr rfl (qso2 hf).1 (qso2 hf).2 dX6_doPerform_119
    · have hf := qif_f hf c_4
      refine lv_aload_n hx hb dX6_doPerform_44 rfl (lv_at hl 0 rfl) ?_
      refine qget_X6_0 hC hR qk_1125 dX6_doPerform_45 ?_
      refine lv_bipush (v := 7) hx hb dX6_doPerform_48 (by decide) ?_
      refine lv_iload_n hx hb dX6_doPerform_50 rfl (lv_at hl 3 rfl) ?_
      refine lv_iadd hx hb dX6_doPerform_51 ?_
      obtain ⟨g7, hf⟩ := qgd hf
      refine q_ild hC hR (j := (7 + x3).toNatClampNeg) (by decide) (qsh_239 G ad _) g7 rfl dX6_doPerform_52 ?_
      refine lv_topi (fun x8 ex8 => ?_)
      have hf := qnm_t hf ex8
      refine lv_istore (lv' := [(4, .int x8), (0, .ref (ad 238)), (1, .int x1), (2, .int x2), (3, .int x3)]) hx hb dX6_doPerform_53 hl (by decide) rfl (fun ls hl => ?_)
      refine lv_aload_n hx hb dX6_doPerform_55 rfl (lv_at hl 1 rfl) ?_
      refine lv_iload hx hb dX6_doPerform_56 (lv_at hl 0 rfl) ?_
      obtain ⟨r10, w11, hq9, hf⟩ := qbd2_s hf
      refine q_callVi hC hR (mX6_shocks (qJ hC) hq9) (by decide) (qsh_238 G ad _) rfl qk_1285 qk_1287 qk_30 qk_64 qk_1288 qhd_X6_shocks ⟨Nat.le_of_ble_eq_true rfl, Nat.le_of_ble_eq_true rfl⟩ hl.1 rfl (Nat.le_of_ble_eq_true rfl) dX6_doPerform_58 ⟨Nat.zero_le _, Nat.zero_le _⟩ (fun H locs hR => ?_)
      refine lv_istore (lv' := [(5, .int r10), (4, .int x8), (0, .ref (ad 238)), (1, .int x1), (2, .int x2), (3, .int x3)]) hx hb dX6_doPerform_61 hl (by decide) rfl (fun ls hl => ?_)
      refine lv_iload_n hx hb dX6_doPerform_63 rfl (lv_at hl 4 rfl) ?_
      refine lv_if_le (tgt := 94) hx hb dX6_doPerform_64 (by decide) (fun c_12 => ?_) (fun c_12 => ?_)
      · have hf := qif_t hf c_12
        obtain ⟨x13, ex13⟩ : ∃ y : Int32, y = x3 + 1 := ⟨_, rfl⟩
        have hf := qnm_t hf ex13
        refine lv_iinc (v := x13) (lv' := [(3, .int x13), (5, .int r10), (4, .int x8), (0, .ref (ad 238)), (1, .int x1), (2, .int x2)]) hx hb dX6_doPerform_94 hl (k := 5) rfl (by rw [ex13]; rfl) (by decide) rfl (fun ls hl => ?_)
        refine lv_goto (tgt := 33) hx hb dX6_doPerform_97 (by decide) ?_
        exact ih _ _ _ _ _ _ _ hf hR (lv_sub hl [3, 4, 5, 0] rfl)
      · have hf := qif_f hf c_12
        refine lv_iload hx hb dX6_doPerform_67 (lv_at hl 0 rfl) ?_
        refine lv_iconst (v := 3) hx hb dX6_doPerform_69 (by decide) ?_
        refine lv_iload_n hx hb dX6_doPerform_70 rfl (lv_at hl 4 rfl) ?_
        refine lv_imul hx hb dX6_doPerform_71 ?_
        refine lv_icmp_lt (tgt := 94) hx hb dX6_doPerform_72 (by decide) (fun c_14 => ?_) (fun c_14 => ?_)
        · have hf := qif_t hf c_14
          obtain ⟨x15, ex15⟩ : ∃ y : Int32, y = x3 + 1 := ⟨_, rfl⟩
          have hf := qnm_t hf ex15
          refine lv_iinc (v := x15) (lv' := [(3, .int x15), (5, .int r10), (4, .int x8), (0, .ref (ad 238)), (1, .int x1), (2, .int x2)]) hx hb dX6_doPerform_94 hl (k := 5) rfl (by rw [ex15]; rfl) (by decide) rfl (fun ls hl => ?_)
          refine lv_goto (tgt := 33) hx hb dX6_doPerform_97 (by decide) ?_
          exact ih _ _ _ _ _ _ _ hf hR (lv_sub hl [3, 4, 5, 0] rfl)
        · have hf := qif_f hf c_14
          refine lv_iload hx hb dX6_doPerform_75 (lv_at hl 1 rfl) ?_
          refine lv_iconst (v := 1) hx hb dX6_doPerform_77 (by decide) ?_
          refine lv_icmp_le (tgt := 94) hx hb dX6_doPerform_78 (by decide) (fun c_16 => ?_) (fun c_16 => ?_)
          · have hf := qif_t hf c_16
            obtain ⟨x17, ex17⟩ : ∃ y : Int32, y = x3 + 1 := ⟨_, rfl⟩
            have hf := qnm_t hf ex17
            refine lv_iinc (v := x17) (lv' := [(3, .int x17), (5, .int r10), (4, .int x8), (0, .ref (ad 238)), (1, .int x1), (2, .int x2)]) hx hb dX6_doPerform_94 hl (k := 5) rfl (by rw [ex17]; rfl) (by decide) rfl (fun ls hl => ?_)
            refine lv_goto (tgt := 33) hx hb dX6_doPerform_97 (by decide) ?_
            exact ih _ _ _ _ _ _ _ hf hR (lv_sub hl [3, 4, 5, 0] rfl)
          · have hf := qif_f hf c_16
            refine lv_aload_n hx hb dX6_doPerform_81 rfl (lv_at hl 2 rfl) ?_
            refine lv_iload hx hb dX6_doPerform_82 (lv_at hl 1 rfl) ?_
            refine lv_iconst (v := 2) hx hb dX6_doPerform_84 (by decide) ?_
            refine lv_idiv hx hb dX6_doPerform_85 (by decide) ?_
            obtain ⟨r19, w20, hq18, hf⟩ := qbd2_s hf
            refine q_callVi hC hR (mX6_shocks (qJ hC) hq18) (by decide) (qsh_238 G ad _) rfl qk_1285 qk_1287 qk_30 qk_64 qk_1288 qhd_X6_shocks ⟨Nat.le_of_ble_eq_true rfl, Nat.le_of_ble_eq_true rfl⟩ hl.1 rfl (Nat.le_of_ble_eq_true rfl) dX6_doPerform_86 ⟨Nat.zero_le _, Nat.zero_le _⟩ (fun H locs hR => ?_)
            refine lv_istore (lv' := [(6, .int r19), (5, .int r10), (4, .int x8), (0, .ref (ad 238)), (1, .int x1), (2, .int x2), (3, .int x3)]) hx hb dX6_doPerform_89 hl (by decide) rfl (fun ls hl => ?_)
            obtain ⟨x21, ex21⟩ : ∃ y : Int32, y = x1 + 1 := ⟨_, rfl⟩
            have hf := qnm_t hf ex21
            refine lv_iinc (v := x21) (lv' := [(1, .int x21), (6, .int r19), (5, .int r10), (4, .int x8), (0, .ref (ad 238)), (2, .int x2), (3, .int x3)]) hx hb dX6_doPerform_91 hl (k := 4) rfl (by rw [ex21]; rfl) (by decide) rfl (fun ls hl => ?_)
            obtain ⟨x22, ex22⟩ : ∃ y : Int32, y = x3 + 1 := ⟨_, rfl⟩
            have hf := qnm_t hf ex22
            refine lv_iinc (v := x22) (lv' := [(3, .int x22), (1, .int x21), (6, .int r19), (5, .int r10), (4, .int x8), (0, .ref (ad 238)), (2, .int x2)]) hx hb dX6_doPerform_94 hl (k := 6) rfl (by rw [ex22]; rfl) (by decide) rfl (fun ls hl => ?_)
            refine lv_goto (tgt := 33) hx hb dX6_doPerform_97 (by decide) ?_
            exact ih _ _ _ _ _ _ _ hf hR (lv_sub hl [5, 1, 6, 0] rfl)
def fX6_doPerform (w : qMem)   : Option (Int32 × qMem) :=
  if w 239 6 = 0 then
    qbd2 (fX6_refuse w 1 5 (w 239 2)) fun (r24 : Int32) (w25 : qMem) =>
    some (r24, w25)
  else
    qbd (fX6_kindMany w 3) fun (r3 : Int32) =>
    fX6_doPerform_L33 100 w 0 r3 0
theorem qhd_X6_doPerform : yX6_doPerform.cls ≠ "java/lang/invoke/MethodHandle" ∧ yX6_doPerform.cls ≠ "java/lang/invoke/VarHandle" ∧ (parseMethodDescriptor yX6_doPerform.desc).map (fun d => d.parameters.length) = some 0 := ⟨by decide +kernel, by decide +kernel, by decide +kernel⟩
set_option maxHeartbeats 4000000 in
set_option maxRecDepth 100000 in
theorem mX6_doPerform {l : Launch} {D : va_G} {G : Nat → ClassId} {ad : Nat → Nat} (hJ : qInj ad) {w : qMem}    {rF : Int32} {wF : qMem} (hf : fX6_doPerform w = some (rF, wF)) : qCMi l D G ad yX6_doPerform cX6_doPerform 7 (some .int) 5 0 0 [.ref (ad 238)] w rF wF := by
  refine q_start RX6 rfl (by decide +kernel) hJ (fun a b h => by simp only [qQI, qQV, qQR, h]) (Nat.le_of_ble_eq_true rfl) ?_
  intro p e s m args below meth c0 ls hC hr hR hl
  have hx := hC.1
  have hb := hC.2.1
  have hl : lv_has ls 7 [(0, .ref (ad 238))] := hl
  unfold fX6_doPerform at hf
  refine lv_iconst (v := 0) hx hb dX6_doPerform_0 (by decide) ?_
  refine lv_istore_n (lv' := [(1, .int 0), (0, .ref (ad 238))]) hx hb dX6_doPerform_1 rfl hl (by decide) rfl (fun ls hl => ?_)
  refine lv_aload_n hx hb dX6_doPerform_2 rfl (lv_at hl 1 rfl) ?_
  refine qget_X6_0 hC hR qk_1125 dX6_doPerform_3 ?_
  refine lv_bipush (v := 6) hx hb dX6_doPerform_6 (by decide) ?_
  refine q_ild hC hR (j := 6) (by decide) (qsh_239 G ad _) (by decide) (by decide) dX6_doPerform_8 ?_
  refine lv_if_ne (tgt := 25) hx hb dX6_doPerform_9 (by decide) (fun c_1 => ?_) (fun c_1 => ?_)
  · have hf := qif_f hf c_1
    refine lv_aload_n hx hb dX6_doPerform_25 rfl (lv_at hl 1 rfl) ?_
    refine lv_iconst (v := 3) hx hb dX6_doPerform_26 (by decide) ?_
    obtain ⟨r3, hq2, hf⟩ := qbd_s hf
    refine q_callVi hC hR (mX6_kindMany (qJ hC) hq2) (by decide) (qsh_238 G ad _) rfl qk_1325 qk_1327 qk_37 qk_64 qk_1328 qhd_X6_kindMany ⟨Nat.le_of_ble_eq_true rfl, Nat.le_of_ble_eq_true rfl⟩ hl.1 rfl (Nat.le_of_ble_eq_true rfl) dX6_doPerform_27 ⟨Nat.zero_le _, Nat.zero_le _⟩ (fun H locs hR => ?_)
    refine lv_istore_n (lv' := [(2, .int r3), (1, .int 0), (0, .ref (ad 238))]) hx hb dX6_doPerform_30 rfl hl (by decide) rfl (fun ls hl => ?_)
    refine lv_iconst (v := 0) hx hb dX6_doPerform_31 (by decide) ?_
    refine lv_istore_n (lv' := [(3, .int 0), (2, .int r3), (1, .int 0), (0, .ref (ad 238))]) hx hb dX6_doPerform_32 rfl hl (by decide) rfl (fun ls hl => ?_)
    exact mX6_doPerform_L33 hC hr 100 _ _ _ _ _ _ _ hf hR (lv_sub hl [3, 2, 1, 0] rfl)
  · have hf := qif_t hf c_1
    refine lv_aload_n hx hb dX6_doPerform_12 rfl (lv_at hl 1 rfl) ?_
    refine lv_iconst (v := 1) hx hb dX6_doPerform_13 (by decide) ?_
    refine lv_iconst (v := 5) hx hb dX6_doPerform_14 (by decide) ?_
    refine lv_aload_n hx hb dX6_doPerform_15 rfl (lv_at hl 1 rfl) ?_
    refine qget_X6_0 hC hR qk_1125 dX6_doPerform_16 ?_
    refine lv_iconst (v := 2) hx hb dX6_doPerform_19 (by decide) ?_
    refine q_ild hC hR (j := 2) (by decide) (qsh_239 G ad _) (by decide) (by decide) dX6_doPerform_20 ?_
    obtain ⟨r24, w25, hq23, hf⟩ := qbd2_s hf
    refine q_callVi hC hR (mX6_refuse (qJ hC) hq23) (by decide) (qsh_238 G ad _) rfl qk_1222 qk_1224 qk_21 qk_64 qk_1225 qhd_X6_refuse ⟨Nat.le_of_ble_eq_true rfl, Nat.le_of_ble_eq_true rfl⟩ hl.1 rfl (Nat.le_of_ble_eq_true rfl) dX6_doPerform_21 ⟨Nat.zero_le _, Nat.zero_le _⟩ (fun H locs hR => ?_)
    exact q_iret hC hR hr rfl (qso2 hf).1 (qso2 hf).2 dX6_doPerform_24
-- X6.perform
def fX6_perform (w : qMem)   : Option (Int32 × qMem) :=
  qbd (fX6_keep w) fun (w2 : qMem) =>
  qbd2 (fX6_doPerform w2) fun (r4 : Int32) (w5 : qMem) =>
  qbd2 (fX6_ends w5 r4) fun (r7 : Int32) (w8 : qMem) =>
  some (r7, w8)
theorem qhd_X6_perform : yX6_perform.cls ≠ "java/lang/invoke/MethodHandle" ∧ yX6_perform.cls ≠ "java/lang/invoke/VarHandle" ∧ (parseMethodDescriptor yX6_perform.desc).map (fun d => d.parameters.length) = some 0 := ⟨by decide +kernel, by decide +kernel, by decide +kernel⟩
set_option maxHeartbeats 4000000 in
set_option maxRecDepth 100000 in
theorem mX6_perform {l : Launch} {D : va_G} {G : Nat → ClassId} {ad : Nat → Nat} (hJ : qInj ad) {w : qMem}    {rF : Int32} {wF : qMem} (hf : fX6_perform w = some (rF, wF)) : qCMi l D G ad yX6_perform cX6_perform 1 (some .int) 6 0 0 [.ref (ad 238)] w rF wF := by
  refine q_start RX6 rfl (by decide +kernel) hJ (fun a b h => by simp only [qQI, qQV, qQR, h]) (Nat.le_of_ble_eq_true rfl) ?_
  intro p e s m args below meth c0 ls hC hr hR hl
  have hx := hC.1
  have hb := hC.2.1
  have hl : lv_has ls 1 [(0, .ref (ad 238))] := hl
  unfold fX6_perform at hf
  refine lv_aload_n hx hb dX6_perform_0 rfl (lv_at hl 0 rfl) ?_
  obtain ⟨w2, hq1, hf⟩ := qbd_s hf
  refine q_callVv hC hR (mX6_keep (qJ hC) hq1) (by decide) (qsh_238 G ad _) rfl qk_1201 qk_1203 qk_18 qk_64 qk_1204 qhd_X6_keep ⟨Nat.le_of_ble_eq_true rfl, Nat.le_of_ble_eq_true rfl⟩ hl.1 rfl (Nat.le_of_ble_eq_true rfl) dX6_perform_1 ⟨Nat.zero_le _, Nat.zero_le _⟩ (fun H locs hR => ?_)
  refine lv_aload_n hx hb dX6_perform_4 rfl (lv_at hl 0 rfl) ?_
  refine lv_aload_n hx hb dX6_perform_5 rfl (lv_at hl 0 rfl) ?_
  obtain ⟨r4, w5, hq3, hf⟩ := qbd2_s hf
  refine q_callVi hC hR (mX6_doPerform (qJ hC) hq3) (by decide) (qsh_238 G ad _) rfl qk_1321 qk_1323 qk_36 qk_64 qk_1324 qhd_X6_doPerform ⟨Nat.le_of_ble_eq_true rfl, Nat.le_of_ble_eq_true rfl⟩ hl.1 rfl (Nat.le_of_ble_eq_true rfl) dX6_perform_6 ⟨Nat.zero_le _, Nat.zero_le _⟩ (fun H locs hR => ?_)
  obtain ⟨r7, w8, hq6, hf⟩ := qbd2_s hf
  refine q_callVi hC hR (mX6_ends (qJ hC) hq6) (by decide) (qsh_238 G ad _) rfl qk_1238 qk_1240 qk_25 qk_64 qk_1241 qhd_X6_ends ⟨Nat.le_of_ble_eq_true rfl, Nat.le_of_ble_eq_true rfl⟩ hl.1 rfl (Nat.le_of_ble_eq_true rfl) dX6_perform_9 ⟨Nat.zero_le _, Nat.zero_le _⟩ (fun H locs hR => ?_)
  exact q_iret hC hR hr rfl (qso2 hf).1 (qso2 hf).2 dX6_perform_12
-- X6.doQuiet
def fX6_doQuiet_L4   : Nat → qMem → Int32 → Int32 → Option (Int32 × qMem)
  | 0, _, _, _ => none
  | n + 1, w, x1, x2 =>
    if w 239 0 ≤ x2 then
      some (x1, w)
    else
      qbd (fX6_of w x2 0) fun (r3 : Int32) =>
      if r3 = 2 then
        qbd (fX6_of w x2 4) fun (r7 : Int32) =>
        if r7 = 0 then
          qbd (fX6_of w x2 3) fun (r11 : Int32) =>
          qbd (fX6_sets w x2 3 (r11 / 2)) fun (w13 : qMem) =>
          qbd (fX6_of w13 x2 3) fun (r15 : Int32) =>
          qnm (x1 + r15) fun (x16 : Int32) =>
          qnm (x2 + 1) fun (x17 : Int32) =>
          fX6_doQuiet_L4 n w13 x16 x17
        else
          qnm (x2 + 1) fun (x9 : Int32) =>
          fX6_doQuiet_L4 n w x1 x9
      else
        qnm (x2 + 1) fun (x5 : Int32) =>
        fX6_doQuiet_L4 n w x1 x5
set_option maxHeartbeats 4000000 in
set_option maxRecDepth 100000 in
theorem mX6_doQuiet_L4 {p : Program} {l : Launch} {e : Env} {s : State} {m : MethodId} {args : Array Value} {below : List Frame} {meth : Method} {c0 : Code} {D : va_G} {G : Nat → ClassId} {ad : Nat → Nat}   {rF : Int32} {wF : qMem}  (hC : qCx p c0 cX6_doQuiet 3 s m args meth RX6 D G ad) (hr : meth.sig.returnType = some .int)  : ∀ (n : Nat), ∀ (w : qMem) (x1 : Int32) (x2 : Int32) (H : Heap) (locs : List Loc) (ls : Array Slot), fX6_doQuiet_L4 n w x1 x2 = some (rF, wF) → qRp D G ad s w H locs → lv_has ls 3 [(0, .ref (ad 238)), (1, .int x1), (2, .int x2)] → W p l e (qrm 2 0 0) s m args below meth c0 H locs 0 0 (MQ below (qQI D G ad s wF rF) args s 0 0 (qAdr ad s.heap.size)) (F0 m 4 ls []) := by
  have hx := hC.1
  have hb := hC.2.1
  intro n
  induction n with
  | zero => intro w x1 x2 H locs ls hf; exact nomatch (show (none : Option (Int32 × qMem)) = some _ from hf)
  | succ n ih =>
    intro w x1 x2 H locs ls hf hR hl
    rw [fX6_doQuiet_L4] at hf
    refine lv_iload_n hx hb dX6_doQuiet_4 rfl (lv_at hl 2 rfl) ?_
    refine lv_aload_n hx hb dX6_doQuiet_5 rfl (lv_at hl 0 rfl) ?_
    refine qget_X6_0 hC hR qk_1125 dX6_doQuiet_6 ?_
    refine lv_iconst (v := 0) hx hb dX6_doQuiet_9 (by decide) ?_
    refine q_ild hC hR (j := 0) (by decide) (qsh_239 G ad _) (by decide) (by decide) dX6_doQuiet_10 ?_
    refine lv_icmp_ge (tgt := 62) hx hb dX6_doQuiet_11 (by decide) (fun c_1 => ?_) (fun c_1 => ?_)
    · have hf := qif_t hf c_1
      refine lv_iload_n hx hb dX6_doQuiet_62 rfl (lv_at hl 1 rfl) ?_
      exact q_iret hC hR hr rfl (qso2 hf).1 (qso2 hf).2 dX6_doQuiet_63
    · have hf := qif_f hf c_1
      refine lv_aload_n hx hb dX6_doQuiet_14 rfl (lv_at hl 0 rfl) ?_
      refine lv_iload_n hx hb dX6_doQuiet_15 rfl (lv_at hl 2 rfl) ?_
      refine lv_iconst (v := 0) hx hb dX6_doQuiet_16 (by decide) ?_
      obtain ⟨r3, hq2, hf⟩ := qbd_s hf
      refine q_callVi hC hR (mX6_of (qJ hC) hq2) (by decide) (qsh_238 G ad _) rfl qk_1230 qk_1232 qk_23 qk_64 qk_1233 qhd_X6_of ⟨Nat.le_of_ble_eq_true rfl, Nat.le_of_ble_eq_true rfl⟩ hl.1 rfl (Nat.le_of_ble_eq_true rfl) dX6_doQuiet_17 ⟨Nat.zero_le _, Nat.zero_le _⟩ (fun H locs hR => ?_)
      refine lv_iconst (v := 2) hx hb dX6_doQuiet_20 (by decide) ?_
      refine lv_icmp_ne (tgt := 56) hx hb dX6_doQuiet_21 (by decide) (fun c_4 => ?_) (fun c_4 => ?_)
      · have hf := qif_f hf c_4
        obtain ⟨x5, ex5⟩ : ∃ y : Int32, y = x2 + 1 := ⟨_, rfl⟩
        have hf := qnm_t hf ex5
        refine lv_iinc (v := x5) (lv' := [(2, .int x5), (0, .ref (ad 238)), (1, .int x1)]) hx hb dX6_doQuiet_56 hl (k := 2) rfl (by rw [ex5]; rfl) (by decide) rfl (fun ls hl => ?_)
        refine lv_goto (tgt := 4) hx hb dX6_doQuiet_59 (by decide) ?_
        exact ih _ _ _ _ _ _ hf hR (lv_sub hl [1, 2, 0] rfl)
      · have hf := qif_t hf c_4
        refine lv_aload_n hx hb dX6_doQuiet_24 rfl (lv_at hl 0 rfl) ?_
        refine lv_iload_n hx hb dX6_doQuiet_25 rfl (lv_at hl 2 rfl) ?_
        refine lv_iconst (v := 4) hx hb dX6_doQuiet_26 (by decide) ?_
        obtain ⟨r7, hq6, hf⟩ := qbd_s hf
        refine q_callVi hC hR (mX6_of (qJ hC) hq6) (by decide) (qsh_238 G ad _) rfl qk_1230 qk_1232 qk_23 qk_64 qk_1233 qhd_X6_of ⟨Nat.le_of_ble_eq_true rfl, Nat.le_of_ble_eq_true rfl⟩ hl.1 rfl (Nat.le_of_ble_eq_true rfl) dX6_doQuiet_27 ⟨Nat.zero_le _, Nat.zero_le _⟩ (fun H locs hR => ?_)
        refine lv_if_ne (tgt := 56) hx hb dX6_doQuiet_30 (by decide) (fun c_8 => ?_) (fun c_8 => ?_)
        · have hf := qif_f hf c_8
          obtain ⟨x9, ex9⟩ : ∃ y : Int32, y = x2 + 1 := ⟨_, rfl⟩
          have hf := qnm_t hf ex9
          refine lv_iinc (v := x9) (lv' := [(2, .int x9), (0, .ref (ad 238)), (1, .int x1)]) hx hb dX6_doQuiet_56 hl (k := 2) rfl (by rw [ex9]; rfl) (by decide) rfl (fun ls hl => ?_)
          refine lv_goto (tgt := 4) hx hb dX6_doQuiet_59 (by decide) ?_
          exact ih _ _ _ _ _ _ hf hR (lv_sub hl [1, 2, 0] rfl)
        · have hf := qif_t hf c_8
          refine lv_aload_n hx hb dX6_doQuiet_33 rfl (lv_at hl 0 rfl) ?_
          refine lv_iload_n hx hb dX6_doQuiet_34 rfl (lv_at hl 2 rfl) ?_
          refine lv_iconst (v := 3) hx hb dX6_doQuiet_35 (by decide) ?_
          refine lv_aload_n hx hb dX6_doQuiet_36 rfl (lv_at hl 0 rfl) ?_
          refine lv_iload_n hx hb dX6_doQuiet_37 rfl (lv_at hl 2 rfl) ?_
          refine lv_iconst (v := 3) hx hb dX6_doQuiet_38 (by decide) ?_
          obtain ⟨r11, hq10, hf⟩ := qbd_s hf
          refine q_callVi hC hR (mX6_of (qJ hC) hq10) (by decide) (qsh_238 G ad _) rfl qk_1230 qk_1232 qk_23 qk_64 qk_1233 qhd_X6_of ⟨Nat.le_of_ble_eq_true rfl, Nat.le_of_ble_eq_true rfl⟩ hl.1 rfl (Nat.le_of_ble_eq_true rfl) dX6_doQuiet_39 ⟨Nat.zero_le _, Nat.zero_le _⟩ (fun H locs hR => ?_)
          refine lv_iconst (v := 2) hx hb dX6_doQuiet_42 (by decide) ?_
          refine lv_idiv hx hb dX6_doQuiet_43 (by decide) ?_
          obtain ⟨w13, hq12, hf⟩ := qbd_s hf
          refine q_callVv hC hR (mX6_sets (qJ hC) hq12) (by decide) (qsh_238 G ad _) rfl qk_1234 qk_1236 qk_24 qk_64 qk_1237 qhd_X6_sets ⟨Nat.le_of_ble_eq_true rfl, Nat.le_of_ble_eq_true rfl⟩ hl.1 rfl (Nat.le_of_ble_eq_true rfl) dX6_doQuiet_44 ⟨Nat.zero_le _, Nat.zero_le _⟩ (fun H locs hR => ?_)
          refine lv_iload_n hx hb dX6_doQuiet_47 rfl (lv_at hl 1 rfl) ?_
          refine lv_aload_n hx hb dX6_doQuiet_48 rfl (lv_at hl 0 rfl) ?_
          refine lv_iload_n hx hb dX6_doQuiet_49 rfl (lv_at hl 2 rfl) ?_
          refine lv_iconst (v := 3) hx hb dX6_doQuiet_50 (by decide) ?_
          obtain ⟨r15, hq14, hf⟩ := qbd_s hf
          refine q_callVi hC hR (mX6_of (qJ hC) hq14) (by decide) (qsh_238 G ad _) rfl qk_1230 qk_1232 qk_23 qk_64 qk_1233 qhd_X6_of ⟨Nat.le_of_ble_eq_true rfl, Nat.le_of_ble_eq_true rfl⟩ hl.1 rfl (Nat.le_of_ble_eq_true rfl) dX6_doQuiet_51 ⟨Nat.zero_le _, Nat.zero_le _⟩ (fun H locs hR => ?_)
          refine lv_iadd hx hb dX6_doQuiet_54 ?_
          refine lv_topi (fun x16 ex16 => ?_)
          have hf := qnm_t hf ex16
          refine lv_istore_n (lv' := [(1, .int x16), (0, .ref (ad 238)), (2, .int x2)]) hx hb dX6_doQuiet_55 rfl hl (by decide) rfl (fun ls hl => ?_)
          obtain ⟨x17, ex17⟩ : ∃ y : Int32, y = x2 + 1 := ⟨_, rfl⟩
          have hf := qnm_t hf ex17
          refine lv_iinc (v := x17) (lv' := [(2, .int x17), (1, .int x16), (0, .ref (ad 238))]) hx hb dX6_doQuiet_56 hl (k := 2) rfl (by rw [ex17]; rfl) (by decide) rfl (fun ls hl => ?_)
          refine lv_goto (tgt := 4) hx hb dX6_doQuiet_59 (by decide) ?_
          exact ih _ _ _ _ _ _ hf hR (lv_sub hl [2, 1, 0] rfl)
def fX6_doQuiet (w : qMem)   : Option (Int32 × qMem) :=
  fX6_doQuiet_L4 100 w 0 0
theorem qhd_X6_doQuiet : yX6_doQuiet.cls ≠ "java/lang/invoke/MethodHandle" ∧ yX6_doQuiet.cls ≠ "java/lang/invoke/VarHandle" ∧ (parseMethodDescriptor yX6_doQuiet.desc).map (fun d => d.parameters.length) = some 0 := ⟨by decide +kernel, by decide +kernel, by decide +kernel⟩
set_option maxHeartbeats 4000000 in
set_option maxRecDepth 100000 in
theorem mX6_doQuiet {l : Launch} {D : va_G} {G : Nat → ClassId} {ad : Nat → Nat} (hJ : qInj ad) {w : qMem}    {rF : Int32} {wF : qMem} (hf : fX6_doQuiet w = some (rF, wF)) : qCMi l D G ad yX6_doQuiet cX6_doQuiet 3 (some .int) 2 0 0 [.ref (ad 238)] w rF wF := by
  refine q_start RX6 rfl (by decide +kernel) hJ (fun a b h => by simp only [qQI, qQV, qQR, h]) (Nat.le_of_ble_eq_true rfl) ?_
  intro p e s m args below meth c0 ls hC hr hR hl
  have hx := hC.1
  have hb := hC.2.1
  have hl : lv_has ls 3 [(0, .ref (ad 238))] := hl
  unfold fX6_doQuiet at hf
  refine lv_iconst (v := 0) hx hb dX6_doQuiet_0 (by decide) ?_
  refine lv_istore_n (lv' := [(1, .int 0), (0, .ref (ad 238))]) hx hb dX6_doQuiet_1 rfl hl (by decide) rfl (fun ls hl => ?_)
  refine lv_iconst (v := 0) hx hb dX6_doQuiet_2 (by decide) ?_
  refine lv_istore_n (lv' := [(2, .int 0), (1, .int 0), (0, .ref (ad 238))]) hx hb dX6_doQuiet_3 rfl hl (by decide) rfl (fun ls hl => ?_)
  exact mX6_doQuiet_L4 hC hr 100 _ _ _ _ _ _ hf hR (lv_sub hl [2, 1, 0] rfl)
-- X6.quiet
def fX6_quiet (w : qMem)   : Option (Int32 × qMem) :=
  qbd (fX6_keep w) fun (w2 : qMem) =>
  qbd2 (fX6_doQuiet w2) fun (r4 : Int32) (w5 : qMem) =>
  qbd2 (fX6_ends w5 r4) fun (r7 : Int32) (w8 : qMem) =>
  some (r7, w8)
theorem qhd_X6_quiet : yX6_quiet.cls ≠ "java/lang/invoke/MethodHandle" ∧ yX6_quiet.cls ≠ "java/lang/invoke/VarHandle" ∧ (parseMethodDescriptor yX6_quiet.desc).map (fun d => d.parameters.length) = some 0 := ⟨by decide +kernel, by decide +kernel, by decide +kernel⟩
set_option maxHeartbeats 4000000 in
set_option maxRecDepth 100000 in
theorem mX6_quiet {l : Launch} {D : va_G} {G : Nat → ClassId} {ad : Nat → Nat} (hJ : qInj ad) {w : qMem}    {rF : Int32} {wF : qMem} (hf : fX6_quiet w = some (rF, wF)) : qCMi l D G ad yX6_quiet cX6_quiet 1 (some .int) 3 0 0 [.ref (ad 238)] w rF wF := by
  refine q_start RX6 rfl (by decide +kernel) hJ (fun a b h => by simp only [qQI, qQV, qQR, h]) (Nat.le_of_ble_eq_true rfl) ?_
  intro p e s m args below meth c0 ls hC hr hR hl
  have hx := hC.1
  have hb := hC.2.1
  have hl : lv_has ls 1 [(0, .ref (ad 238))] := hl
  unfold fX6_quiet at hf
  refine lv_aload_n hx hb dX6_quiet_0 rfl (lv_at hl 0 rfl) ?_
  obtain ⟨w2, hq1, hf⟩ := qbd_s hf
  refine q_callVv hC hR (mX6_keep (qJ hC) hq1) (by decide) (qsh_238 G ad _) rfl qk_1201 qk_1203 qk_18 qk_64 qk_1204 qhd_X6_keep ⟨Nat.le_of_ble_eq_true rfl, Nat.le_of_ble_eq_true rfl⟩ hl.1 rfl (Nat.le_of_ble_eq_true rfl) dX6_quiet_1 ⟨Nat.zero_le _, Nat.zero_le _⟩ (fun H locs hR => ?_)
  refine lv_aload_n hx hb dX6_quiet_4 rfl (lv_at hl 0 rfl) ?_
  refine lv_aload_n hx hb dX6_quiet_5 rfl (lv_at hl 0 rfl) ?_
  obtain ⟨r4, w5, hq3, hf⟩ := qbd2_s hf
  refine q_callVi hC hR (mX6_doQuiet (qJ hC) hq3) (by decide) (qsh_238 G ad _) rfl qk_1333 qk_1335 qk_38 qk_64 qk_1336 qhd_X6_doQuiet ⟨Nat.le_of_ble_eq_true rfl, Nat.le_of_ble_eq_true rfl⟩ hl.1 rfl (Nat.le_of_ble_eq_true rfl) dX6_quiet_6 ⟨Nat.zero_le _, Nat.zero_le _⟩ (fun H locs hR => ?_)
  obtain ⟨r7, w8, hq6, hf⟩ := qbd2_s hf
  refine q_callVi hC hR (mX6_ends (qJ hC) hq6) (by decide) (qsh_238 G ad _) rfl qk_1238 qk_1240 qk_25 qk_64 qk_1241 qhd_X6_ends ⟨Nat.le_of_ble_eq_true rfl, Nat.le_of_ble_eq_true rfl⟩ hl.1 rfl (Nat.le_of_ble_eq_true rfl) dX6_quiet_9 ⟨Nat.zero_le _, Nat.zero_le _⟩ (fun H locs hR => ?_)
  exact q_iret hC hR hr rfl (qso2 hf).1 (qso2 hf).2 dX6_quiet_12
