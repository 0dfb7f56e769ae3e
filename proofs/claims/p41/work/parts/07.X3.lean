-- X3.begin
def fX3_begin (w : qMem) (c : Nat) (a1 : Int32) (a2 : Int32) (a3 : Int32) : Option (qMem) :=
  qnm (quw w c 0 a1) fun (w1 : qMem) =>
  qnm (quw w1 c 1 a2) fun (w2 : qMem) =>
  qnm (quw w2 c 2 a3) fun (w3 : qMem) =>
  qnm (quw w3 c 3 0) fun (w4 : qMem) =>
  qnm (quw w4 c 4 0) fun (w5 : qMem) =>
  qnm (quw w5 c 5 0) fun (w6 : qMem) =>
  qnm (quw w6 c 6 0) fun (w7 : qMem) =>
  some w7
theorem qhd_X3_begin : yX3_begin.cls ≠ "java/lang/invoke/MethodHandle" ∧ yX3_begin.cls ≠ "java/lang/invoke/VarHandle" ∧ (parseMethodDescriptor yX3_begin.desc).map (fun d => d.parameters.length) = some 3 := ⟨by decide +kernel, by decide +kernel, by decide +kernel⟩
set_option maxHeartbeats 4000000 in
set_option maxRecDepth 100000 in
theorem mX3_begin {l : Launch} {D : va_G} {G : Nat → ClassId} {ad : Nat → Nat} (hJ : qInj ad) {w : qMem} {c : Nat} (hc : qisP c) {a1 : Int32} {a2 : Int32} {a3 : Int32} {wF : qMem} (hf : fX3_begin w c a1 a2 a3 = some wF) : qCMv l D G ad yX3_begin cX3_begin 4 (none) 1 0 0 [.ref (ad (c)), .int a1, .int a2, .int a3] w wF := by
  refine q_start RX3 rfl (by decide +kernel) hJ (fun a b h => by simp only [qQI, qQV, qQR, qQD, qQF, h]) (Nat.le_of_ble_eq_true rfl) ?_
  intro p e s m args below meth c0 ls hC hr hR hl
  have hx := hC.1
  have hb := hC.2.1
  have hl : lv_has ls 4 [(0, .ref (ad (c))), (1, .int a1), (2, .int a2), (3, .int a3)] := hl
  unfold fX3_begin at hf
  refine lv_aload_n hx hb dX3_begin_0 rfl (lv_at hl 0 rfl) ?_
  refine lv_iload_n hx hb dX3_begin_1 rfl (lv_at hl 1 rfl) ?_
  refine qput_X3_0 hC hR hc qk_71 ⟨rfl, rfl⟩ dX3_begin_2 (fun w1 H locs ew1 hR => ?_)
  have hf := qnm_t hf ew1
  refine lv_aload_n hx hb dX3_begin_5 rfl (lv_at hl 0 rfl) ?_
  refine lv_iload_n hx hb dX3_begin_6 rfl (lv_at hl 2 rfl) ?_
  refine qput_X3_1 hC hR hc qk_75 ⟨rfl, rfl⟩ dX3_begin_7 (fun w2 H locs ew2 hR => ?_)
  have hf := qnm_t hf ew2
  refine lv_aload_n hx hb dX3_begin_10 rfl (lv_at hl 0 rfl) ?_
  refine lv_iload_n hx hb dX3_begin_11 rfl (lv_at hl 3 rfl) ?_
  refine qput_X3_2 hC hR hc qk_79 ⟨rfl, rfl⟩ dX3_begin_12 (fun w3 H locs ew3 hR => ?_)
  have hf := qnm_t hf ew3
  refine lv_aload_n hx hb dX3_begin_15 rfl (lv_at hl 0 rfl) ?_
  refine lv_iconst (v := 0) hx hb dX3_begin_16 (by decide) ?_
  refine qput_X3_3 hC hR hc qk_83 ⟨rfl, rfl⟩ dX3_begin_17 (fun w4 H locs ew4 hR => ?_)
  have hf := qnm_t hf ew4
  refine lv_aload_n hx hb dX3_begin_20 rfl (lv_at hl 0 rfl) ?_
  refine lv_iconst (v := 0) hx hb dX3_begin_21 (by decide) ?_
  refine qput_X3_4 hC hR hc qk_87 ⟨by decide, by decide⟩ dX3_begin_22 (fun w5 H locs ew5 hR => ?_)
  have hf := qnm_t hf ew5
  refine lv_aload_n hx hb dX3_begin_25 rfl (lv_at hl 0 rfl) ?_
  refine lv_iconst (v := 0) hx hb dX3_begin_26 (by decide) ?_
  refine qput_X3_5 hC hR hc qk_91 ⟨rfl, rfl⟩ dX3_begin_27 (fun w6 H locs ew6 hR => ?_)
  have hf := qnm_t hf ew6
  refine lv_aload_n hx hb dX3_begin_30 rfl (lv_at hl 0 rfl) ?_
  refine lv_iconst (v := 0) hx hb dX3_begin_31 (by decide) ?_
  refine qput_X3_6 hC hR hc qk_94 ⟨rfl, rfl⟩ dX3_begin_32 (fun w7 H locs ew7 hR => ?_)
  have hf := qnm_t hf ew7
  exact q_vret hC hR hr (qso hf) dX3_begin_35
-- X3.copyFrom
def fX3_copyFrom (w : qMem) (c : Nat) (c1 : Nat)  : Option (qMem) :=
  qnm (quw w c 0 (w c1 0)) fun (w1 : qMem) =>
  qnm (quw w1 c 1 (w1 c1 1)) fun (w2 : qMem) =>
  qnm (quw w2 c 2 (w2 c1 2)) fun (w3 : qMem) =>
  qnm (quw w3 c 3 (w3 c1 3)) fun (w4 : qMem) =>
  if qisB (w4 c1 4) = true then
  qnm (quw w4 c 4 (w4 c1 4)) fun (w6 : qMem) =>
  qnm (quw w6 c 5 (w6 c1 5)) fun (w7 : qMem) =>
  qnm (quw w7 c 6 (w7 c1 6)) fun (w8 : qMem) =>
  some w8
  else none
theorem qhd_X3_copyFrom : yX3_copyFrom.cls ≠ "java/lang/invoke/MethodHandle" ∧ yX3_copyFrom.cls ≠ "java/lang/invoke/VarHandle" ∧ (parseMethodDescriptor yX3_copyFrom.desc).map (fun d => d.parameters.length) = some 1 := ⟨by decide +kernel, by decide +kernel, by decide +kernel⟩
set_option maxHeartbeats 4000000 in
set_option maxRecDepth 100000 in
theorem mX3_copyFrom {l : Launch} {D : va_G} {G : Nat → ClassId} {ad : Nat → Nat} (hJ : qInj ad) {w : qMem} {c : Nat} {c1 : Nat} (hc : qisP c) (hc1 : qisP c1)  {wF : qMem} (hf : fX3_copyFrom w c c1 = some wF) : qCMv l D G ad yX3_copyFrom cX3_copyFrom 2 (none) 1 0 0 [.ref (ad (c)), .ref (ad (c1))] w wF := by
  refine q_start RX3 rfl (by decide +kernel) hJ (fun a b h => by simp only [qQI, qQV, qQR, qQD, qQF, h]) (Nat.le_of_ble_eq_true rfl) ?_
  intro p e s m args below meth c0 ls hC hr hR hl
  have hx := hC.1
  have hb := hC.2.1
  have hl : lv_has ls 2 [(0, .ref (ad (c))), (1, .ref (ad (c1)))] := hl
  unfold fX3_copyFrom at hf
  refine lv_aload_n hx hb dX3_copyFrom_0 rfl (lv_at hl 0 rfl) ?_
  refine lv_aload_n hx hb dX3_copyFrom_1 rfl (lv_at hl 1 rfl) ?_
  refine qget_X3_0 hC hR hc1 qk_71 dX3_copyFrom_2 ?_
  refine qput_X3_0 hC hR hc qk_71 ⟨rfl, rfl⟩ dX3_copyFrom_5 (fun w1 H locs ew1 hR => ?_)
  have hf := qnm_t hf ew1
  refine lv_aload_n hx hb dX3_copyFrom_8 rfl (lv_at hl 0 rfl) ?_
  refine lv_aload_n hx hb dX3_copyFrom_9 rfl (lv_at hl 1 rfl) ?_
  refine qget_X3_1 hC hR hc1 qk_75 dX3_copyFrom_10 ?_
  refine qput_X3_1 hC hR hc qk_75 ⟨rfl, rfl⟩ dX3_copyFrom_13 (fun w2 H locs ew2 hR => ?_)
  have hf := qnm_t hf ew2
  refine lv_aload_n hx hb dX3_copyFrom_16 rfl (lv_at hl 0 rfl) ?_
  refine lv_aload_n hx hb dX3_copyFrom_17 rfl (lv_at hl 1 rfl) ?_
  refine qget_X3_2 hC hR hc1 qk_79 dX3_copyFrom_18 ?_
  refine qput_X3_2 hC hR hc qk_79 ⟨rfl, rfl⟩ dX3_copyFrom_21 (fun w3 H locs ew3 hR => ?_)
  have hf := qnm_t hf ew3
  refine lv_aload_n hx hb dX3_copyFrom_24 rfl (lv_at hl 0 rfl) ?_
  refine lv_aload_n hx hb dX3_copyFrom_25 rfl (lv_at hl 1 rfl) ?_
  refine qget_X3_3 hC hR hc1 qk_83 dX3_copyFrom_26 ?_
  refine qput_X3_3 hC hR hc qk_83 ⟨rfl, rfl⟩ dX3_copyFrom_29 (fun w4 H locs ew4 hR => ?_)
  have hf := qnm_t hf ew4
  refine lv_aload_n hx hb dX3_copyFrom_32 rfl (lv_at hl 0 rfl) ?_
  refine lv_aload_n hx hb dX3_copyFrom_33 rfl (lv_at hl 1 rfl) ?_
  refine qget_X3_4 hC hR hc1 qk_87 dX3_copyFrom_34 ?_
  obtain ⟨g5, hf⟩ := qgd hf
  refine qput_X3_4 hC hR hc qk_87 (qisB_ok g5) dX3_copyFrom_37 (fun w6 H locs ew6 hR => ?_)
  have hf := qnm_t hf ew6
  refine lv_aload_n hx hb dX3_copyFrom_40 rfl (lv_at hl 0 rfl) ?_
  refine lv_aload_n hx hb dX3_copyFrom_41 rfl (lv_at hl 1 rfl) ?_
  refine qget_X3_5 hC hR hc1 qk_91 dX3_copyFrom_42 ?_
  refine qput_X3_5 hC hR hc qk_91 ⟨rfl, rfl⟩ dX3_copyFrom_45 (fun w7 H locs ew7 hR => ?_)
  have hf := qnm_t hf ew7
  refine lv_aload_n hx hb dX3_copyFrom_48 rfl (lv_at hl 0 rfl) ?_
  refine lv_aload_n hx hb dX3_copyFrom_49 rfl (lv_at hl 1 rfl) ?_
  refine qget_X3_6 hC hR hc1 qk_94 dX3_copyFrom_50 ?_
  refine qput_X3_6 hC hR hc qk_94 ⟨rfl, rfl⟩ dX3_copyFrom_53 (fun w8 H locs ew8 hR => ?_)
  have hf := qnm_t hf ew8
  exact q_vret hC hR hr (qso hf) dX3_copyFrom_56
-- X3.shakeCup
def fX3_shakeCup_L46 (c : Nat)  (w : qMem) (s0 : Int32) : Option (Int32 × qMem) :=
  qnm (quw w c 2 s0) fun (w9 : qMem) =>
  if w9 c 3 < 3 then
    qnm (quw w9 c 4 0) fun (w11 : qMem) =>
    if qisB (w11 c 4) = true then
    some (w11 c 4, w11)
    else none
  else
    qnm (quw w9 c 4 1) fun (w13 : qMem) =>
    if qisB (w13 c 4) = true then
    some (w13 c 4, w13)
    else none
set_option maxHeartbeats 4000000 in
set_option maxRecDepth 100000 in
theorem mX3_shakeCup_L46 {p : Program} {l : Launch} {e : Env} {s : State} {m : MethodId} {args : Array Value} {below : List Frame} {meth : Method} {c0 : Code} {D : va_G} {G : Nat → ClassId} {ad : Nat → Nat} {c : Nat} (hc : qisP c) {rF : Int32} {wF : qMem}  (hC : qCx p c0 cX3_shakeCup 2 s m args meth RX3 D G ad) (hr : meth.sig.returnType = some .boolean)  : ∀ (w : qMem) (s0 : Int32) (H : Heap) (locs : List Loc) (ls : Array Slot), fX3_shakeCup_L46 c w s0 = some (rF, wF) → qRp D G ad s w H locs → lv_has ls 2 [(0, .ref (ad (c)))] → W p l e (qrm 1 0 0) s m args below meth c0 H locs 0 0 (MQ below (qQI D G ad s wF rF) args s 0 0 (qAdr ad s.heap.size)) (F0 m 46 ls [.int s0, .ref (ad (c))]) := by
  have hx := hC.1
  have hb := hC.2.1
  intro w s0 H locs ls hf hR hl
  unfold fX3_shakeCup_L46 at hf
  refine qput_X3_2 hC hR hc qk_79 ⟨rfl, rfl⟩ dX3_shakeCup_46 (fun w9 H locs ew9 hR => ?_)
  have hf := qnm_t hf ew9
  refine lv_aload_n hx hb dX3_shakeCup_49 rfl (lv_at hl 0 rfl) ?_
  refine lv_aload_n hx hb dX3_shakeCup_50 rfl (lv_at hl 0 rfl) ?_
  refine qget_X3_3 hC hR hc qk_83 dX3_shakeCup_51 ?_
  refine lv_iconst (v := 3) hx hb dX3_shakeCup_54 (by decide) ?_
  refine lv_icmp_lt (tgt := 62) hx hb dX3_shakeCup_55 (by decide) (fun c_10 => ?_) (fun c_10 => ?_)
  · have hf := qif_t hf c_10
    refine lv_iconst (v := 0) hx hb dX3_shakeCup_62 (by decide) ?_
    refine qput_X3_4 hC hR hc qk_87 ⟨by decide, by decide⟩ dX3_shakeCup_63 (fun w11 H locs ew11 hR => ?_)
    have hf := qnm_t hf ew11
    refine lv_goto (tgt := 89) hx hb dX3_shakeCup_66 (by decide) ?_
    refine lv_aload_n hx hb dX3_shakeCup_89 rfl (lv_at hl 0 rfl) ?_
    refine qget_X3_4 hC hR hc qk_87 dX3_shakeCup_90 ?_
    obtain ⟨g12, hf⟩ := qgd hf
    exact q_iret hC hR hr (qisB_ok g12).1 (qso2 hf).1 (qso2 hf).2 dX3_shakeCup_93
  · have hf := qif_f hf c_10
    refine lv_iconst (v := 1) hx hb dX3_shakeCup_58 (by decide) ?_
    refine lv_goto (tgt := 63) hx hb dX3_shakeCup_59 (by decide) ?_
    refine qput_X3_4 hC hR hc qk_87 ⟨by decide, by decide⟩ dX3_shakeCup_63 (fun w13 H locs ew13 hR => ?_)
    have hf := qnm_t hf ew13
    refine lv_goto (tgt := 89) hx hb dX3_shakeCup_66 (by decide) ?_
    refine lv_aload_n hx hb dX3_shakeCup_89 rfl (lv_at hl 0 rfl) ?_
    refine qget_X3_4 hC hR hc qk_87 dX3_shakeCup_90 ?_
    obtain ⟨g14, hf⟩ := qgd hf
    exact q_iret hC hR hr (qisB_ok g14).1 (qso2 hf).1 (qso2 hf).2 dX3_shakeCup_93
def fX3_shakeCup (w : qMem) (c : Nat) (a1 : Int32) : Option (Int32 × qMem) :=
  if w c 4 = 0 then
    if a1 < w c 2 then
      if 2 * a1 < w c 2 then
        if qisB (w c 4) = true then
        some (w c 4, w)
        else none
      else
        qnm (quw w c 6 ((w c 6) + 1)) fun (w5 : qMem) =>
        if qisB (w5 c 4) = true then
        some (w5 c 4, w5)
        else none
    else
      qnm (quw w c 3 ((w c 3) + 1)) fun (w7 : qMem) =>
      if w7 c 2 ≤ 1 then
        fX3_shakeCup_L46 c w7 1
      else
        fX3_shakeCup_L46 c w7 ((w7 c 2) - 1)
  else
    some (0, w)
theorem qhd_X3_shakeCup : yX3_shakeCup.cls ≠ "java/lang/invoke/MethodHandle" ∧ yX3_shakeCup.cls ≠ "java/lang/invoke/VarHandle" ∧ (parseMethodDescriptor yX3_shakeCup.desc).map (fun d => d.parameters.length) = some 1 := ⟨by decide +kernel, by decide +kernel, by decide +kernel⟩
set_option maxHeartbeats 4000000 in
set_option maxRecDepth 100000 in
theorem mX3_shakeCup {l : Launch} {D : va_G} {G : Nat → ClassId} {ad : Nat → Nat} (hJ : qInj ad) {w : qMem} {c : Nat} (hc : qisP c) {a1 : Int32} {rF : Int32} {wF : qMem} (hf : fX3_shakeCup w c a1 = some (rF, wF)) : qCMi l D G ad yX3_shakeCup cX3_shakeCup 2 (some .boolean) 1 0 0 [.ref (ad (c)), .int a1] w rF wF := by
  refine q_start RX3 rfl (by decide +kernel) hJ (fun a b h => by simp only [qQI, qQV, qQR, qQD, qQF, h]) (Nat.le_of_ble_eq_true rfl) ?_
  intro p e s m args below meth c0 ls hC hr hR hl
  have hx := hC.1
  have hb := hC.2.1
  have hl : lv_has ls 2 [(0, .ref (ad (c))), (1, .int a1)] := hl
  unfold fX3_shakeCup at hf
  refine lv_aload_n hx hb dX3_shakeCup_0 rfl (lv_at hl 0 rfl) ?_
  refine qget_X3_4 hC hR hc qk_87 dX3_shakeCup_1 ?_
  refine lv_if_eq (tgt := 9) hx hb dX3_shakeCup_4 (by decide) (fun c_1 => ?_) (fun c_1 => ?_)
  · have hf := qif_t hf c_1
    refine lv_iload_n hx hb dX3_shakeCup_9 rfl (lv_at hl 1 rfl) ?_
    refine lv_aload_n hx hb dX3_shakeCup_10 rfl (lv_at hl 0 rfl) ?_
    refine qget_X3_2 hC hR hc qk_79 dX3_shakeCup_11 ?_
    refine lv_icmp_lt (tgt := 69) hx hb dX3_shakeCup_14 (by decide) (fun c_2 => ?_) (fun c_2 => ?_)
    · have hf := qif_t hf c_2
      refine lv_iconst (v := 2) hx hb dX3_shakeCup_69 (by decide) ?_
      refine lv_iload_n hx hb dX3_shakeCup_70 rfl (lv_at hl 1 rfl) ?_
      refine lv_imul hx hb dX3_shakeCup_71 ?_
      refine lv_aload_n hx hb dX3_shakeCup_72 rfl (lv_at hl 0 rfl) ?_
      refine qget_X3_2 hC hR hc qk_79 dX3_shakeCup_73 ?_
      refine lv_icmp_lt (tgt := 89) hx hb dX3_shakeCup_76 (by decide) (fun c_3 => ?_) (fun c_3 => ?_)
      · have hf := qif_t hf c_3
        refine lv_aload_n hx hb dX3_shakeCup_89 rfl (lv_at hl 0 rfl) ?_
        refine qget_X3_4 hC hR hc qk_87 dX3_shakeCup_90 ?_
        obtain ⟨g4, hf⟩ := qgd hf
        exact q_iret hC hR hr (qisB_ok g4).1 (qso2 hf).1 (qso2 hf).2 dX3_shakeCup_93
      · have hf := qif_f hf c_3
        refine lv_aload_n hx hb dX3_shakeCup_79 rfl (lv_at hl 0 rfl) ?_
        refine lv_dup hx hb dX3_shakeCup_80 rfl ?_
        refine qget_X3_6 hC hR hc qk_94 dX3_shakeCup_81 ?_
        refine lv_iconst (v := 1) hx hb dX3_shakeCup_84 (by decide) ?_
        refine lv_iadd hx hb dX3_shakeCup_85 ?_
        refine qput_X3_6 hC hR hc qk_94 ⟨rfl, rfl⟩ dX3_shakeCup_86 (fun w5 H locs ew5 hR => ?_)
        have hf := qnm_t hf ew5
        refine lv_aload_n hx hb dX3_shakeCup_89 rfl (lv_at hl 0 rfl) ?_
        refine qget_X3_4 hC hR hc qk_87 dX3_shakeCup_90 ?_
        obtain ⟨g6, hf⟩ := qgd hf
        exact q_iret hC hR hr (qisB_ok g6).1 (qso2 hf).1 (qso2 hf).2 dX3_shakeCup_93
    · have hf := qif_f hf c_2
      refine lv_aload_n hx hb dX3_shakeCup_17 rfl (lv_at hl 0 rfl) ?_
      refine lv_dup hx hb dX3_shakeCup_18 rfl ?_
      refine qget_X3_3 hC hR hc qk_83 dX3_shakeCup_19 ?_
      refine lv_iconst (v := 1) hx hb dX3_shakeCup_22 (by decide) ?_
      refine lv_iadd hx hb dX3_shakeCup_23 ?_
      refine qput_X3_3 hC hR hc qk_83 ⟨rfl, rfl⟩ dX3_shakeCup_24 (fun w7 H locs ew7 hR => ?_)
      have hf := qnm_t hf ew7
      refine lv_aload_n hx hb dX3_shakeCup_27 rfl (lv_at hl 0 rfl) ?_
      refine lv_aload_n hx hb dX3_shakeCup_28 rfl (lv_at hl 0 rfl) ?_
      refine qget_X3_2 hC hR hc qk_79 dX3_shakeCup_29 ?_
      refine lv_iconst (v := 1) hx hb dX3_shakeCup_32 (by decide) ?_
      refine lv_icmp_le (tgt := 45) hx hb dX3_shakeCup_33 (by decide) (fun c_8 => ?_) (fun c_8 => ?_)
      · have hf := qif_t hf c_8
        refine lv_iconst (v := 1) hx hb dX3_shakeCup_45 (by decide) ?_
        exact mX3_shakeCup_L46 hc hC hr _ _ _ _ _ hf hR (lv_sub hl [0] rfl)
      · have hf := qif_f hf c_8
        refine lv_aload_n hx hb dX3_shakeCup_36 rfl (lv_at hl 0 rfl) ?_
        refine qget_X3_2 hC hR hc qk_79 dX3_shakeCup_37 ?_
        refine lv_iconst (v := 1) hx hb dX3_shakeCup_40 (by decide) ?_
        refine lv_isub hx hb dX3_shakeCup_41 ?_
        refine lv_goto (tgt := 46) hx hb dX3_shakeCup_42 (by decide) ?_
        exact mX3_shakeCup_L46 hc hC hr _ _ _ _ _ hf hR (lv_sub hl [0] rfl)
  · have hf := qif_f hf c_1
    refine lv_iconst (v := 0) hx hb dX3_shakeCup_7 (by decide) ?_
    exact q_iret hC hR hr (by decide) (qso2 hf).1 (qso2 hf).2 dX3_shakeCup_8
-- X3.swingAfter
def fX3_swingAfter_L17 (w : qMem) (c : Nat)  (x1 : Int32) (x2 : Int32) (s0 : Int32) : Option (Int32) :=
  if x1 ≤ 0 then
    if w c 5 = x2 then
      some (s0 / 2)
    else
      some (s0)
  else
    if x1 = 0 then none else
    qnm (((w c 3) + x1) + ((w c 2) - (w c 2) / x1 * x1)) fun (x5 : Int32) =>
    if w c 5 = x2 then
      some (x5 / 2)
    else
      some (x5)
set_option maxHeartbeats 4000000 in
set_option maxRecDepth 100000 in
theorem mX3_swingAfter_L17 {p : Program} {l : Launch} {e : Env} {s : State} {m : MethodId} {args : Array Value} {below : List Frame} {meth : Method} {c0 : Code} {D : va_G} {G : Nat → ClassId} {ad : Nat → Nat} {w : qMem} {c : Nat} (hc : qisP c) {rF : Int32}  (hC : qCx p c0 cX3_swingAfter 4 s m args meth RX3 D G ad) (hr : meth.sig.returnType = some .int)  : ∀ (x1 : Int32) (x2 : Int32) (s0 : Int32) (H : Heap) (locs : List Loc) (ls : Array Slot), fX3_swingAfter_L17 w c x1 x2 s0 = some rF → qRp D G ad s w H locs → lv_has ls 4 [(0, .ref (ad (c))), (1, .int x1), (2, .int x2)] → W p l e (qrm 1 0 0) s m args below meth c0 H locs 0 0 (MQ below (qQI D G ad s w rF) args s 0 0 (qAdr ad s.heap.size)) (F0 m 17 ls [.int s0]) := by
  have hx := hC.1
  have hb := hC.2.1
  intro x1 x2 s0 H locs ls hf hR hl
  unfold fX3_swingAfter_L17 at hf
  refine lv_istore_n (lv' := [(3, .int s0), (0, .ref (ad (c))), (1, .int x1), (2, .int x2)]) hx hb dX3_swingAfter_17 rfl hl (by decide) rfl (fun ls hl => ?_)
  refine lv_iload_n hx hb dX3_swingAfter_18 rfl (lv_at hl 2 rfl) ?_
  refine lv_if_le (tgt := 36) hx hb dX3_swingAfter_19 (by decide) (fun c_2 => ?_) (fun c_2 => ?_)
  · have hf := qif_t hf c_2
    refine lv_aload_n hx hb dX3_swingAfter_36 rfl (lv_at hl 1 rfl) ?_
    refine qget_X3_5 hC hR hc qk_91 dX3_swingAfter_37 ?_
    refine lv_iload_n hx hb dX3_swingAfter_40 rfl (lv_at hl 3 rfl) ?_
    refine lv_icmp_ne (tgt := 50) hx hb dX3_swingAfter_41 (by decide) (fun c_3 => ?_) (fun c_3 => ?_)
    · have hf := qif_f hf c_3
      refine lv_iload_n hx hb dX3_swingAfter_50 rfl (lv_at hl 0 rfl) ?_
      exact q_iret hC hR hr rfl (qso hf) rfl dX3_swingAfter_51
    · have hf := qif_t hf c_3
      refine lv_iload_n hx hb dX3_swingAfter_44 rfl (lv_at hl 0 rfl) ?_
      refine lv_iconst (v := 2) hx hb dX3_swingAfter_45 (by decide) ?_
      refine lv_idiv hx hb dX3_swingAfter_46 (by decide) ?_
      refine lv_goto (tgt := 51) hx hb dX3_swingAfter_47 (by decide) ?_
      exact q_iret hC hR hr rfl (qso hf) rfl dX3_swingAfter_51
  · have hf := qif_f hf c_2
    refine lv_aload_n hx hb dX3_swingAfter_22 rfl (lv_at hl 1 rfl) ?_
    refine qget_X3_3 hC hR hc qk_83 dX3_swingAfter_23 ?_
    refine lv_iload_n hx hb dX3_swingAfter_26 rfl (lv_at hl 2 rfl) ?_
    refine lv_iadd hx hb dX3_swingAfter_27 ?_
    refine lv_aload_n hx hb dX3_swingAfter_28 rfl (lv_at hl 1 rfl) ?_
    refine qget_X3_2 hC hR hc qk_79 dX3_swingAfter_29 ?_
    refine lv_iload_n hx hb dX3_swingAfter_32 rfl (lv_at hl 2 rfl) ?_
    obtain ⟨g4, hf⟩ := qgdn hf
    refine lv_irem hx hb dX3_swingAfter_33 g4 ?_
    refine lv_iadd hx hb dX3_swingAfter_34 ?_
    refine lv_topi (fun x5 ex5 => ?_)
    have hf := qnm_t hf ex5
    refine lv_istore_n (lv' := [(3, .int x5), (0, .ref (ad (c))), (1, .int x1), (2, .int x2)]) hx hb dX3_swingAfter_35 rfl hl (by decide) rfl (fun ls hl => ?_)
    refine lv_aload_n hx hb dX3_swingAfter_36 rfl (lv_at hl 1 rfl) ?_
    refine qget_X3_5 hC hR hc qk_91 dX3_swingAfter_37 ?_
    refine lv_iload_n hx hb dX3_swingAfter_40 rfl (lv_at hl 3 rfl) ?_
    refine lv_icmp_ne (tgt := 50) hx hb dX3_swingAfter_41 (by decide) (fun c_6 => ?_) (fun c_6 => ?_)
    · have hf := qif_f hf c_6
      refine lv_iload_n hx hb dX3_swingAfter_50 rfl (lv_at hl 0 rfl) ?_
      exact q_iret hC hR hr rfl (qso hf) rfl dX3_swingAfter_51
    · have hf := qif_t hf c_6
      refine lv_iload_n hx hb dX3_swingAfter_44 rfl (lv_at hl 0 rfl) ?_
      refine lv_iconst (v := 2) hx hb dX3_swingAfter_45 (by decide) ?_
      refine lv_idiv hx hb dX3_swingAfter_46 (by decide) ?_
      refine lv_goto (tgt := 51) hx hb dX3_swingAfter_47 (by decide) ?_
      exact q_iret hC hR hr rfl (qso hf) rfl dX3_swingAfter_51
def fX3_swingAfter (w : qMem) (c : Nat) (a1 : Int32) (a2 : Int32) : Option (Int32) :=
  if w c 3 ≤ 0 then
    fX3_swingAfter_L17 w c a1 a2 0
  else
    fX3_swingAfter_L17 w c a1 a2 ((w c 3) - 1)
theorem qhd_X3_swingAfter : yX3_swingAfter.cls ≠ "java/lang/invoke/MethodHandle" ∧ yX3_swingAfter.cls ≠ "java/lang/invoke/VarHandle" ∧ (parseMethodDescriptor yX3_swingAfter.desc).map (fun d => d.parameters.length) = some 2 := ⟨by decide +kernel, by decide +kernel, by decide +kernel⟩
set_option maxHeartbeats 4000000 in
set_option maxRecDepth 100000 in
theorem mX3_swingAfter {l : Launch} {D : va_G} {G : Nat → ClassId} {ad : Nat → Nat} (hJ : qInj ad) {w : qMem} {c : Nat} (hc : qisP c) {a1 : Int32} {a2 : Int32} {rF : Int32} (hf : fX3_swingAfter w c a1 a2 = some rF) : qCMi l D G ad yX3_swingAfter cX3_swingAfter 4 (some .int) 1 0 0 [.ref (ad (c)), .int a1, .int a2] w rF w := by
  refine q_start RX3 rfl (by decide +kernel) hJ (fun a b h => by simp only [qQI, qQV, qQR, qQD, qQF, h]) (Nat.le_of_ble_eq_true rfl) ?_
  intro p e s m args below meth c0 ls hC hr hR hl
  have hx := hC.1
  have hb := hC.2.1
  have hl : lv_has ls 4 [(0, .ref (ad (c))), (1, .int a1), (2, .int a2)] := hl
  unfold fX3_swingAfter at hf
  refine lv_aload_n hx hb dX3_swingAfter_0 rfl (lv_at hl 0 rfl) ?_
  refine qget_X3_3 hC hR hc qk_83 dX3_swingAfter_1 ?_
  refine lv_if_le (tgt := 16) hx hb dX3_swingAfter_4 (by decide) (fun c_1 => ?_) (fun c_1 => ?_)
  · have hf := qif_t hf c_1
    refine lv_iconst (v := 0) hx hb dX3_swingAfter_16 (by decide) ?_
    exact mX3_swingAfter_L17 hc hC hr _ _ _ _ _ _ hf hR (lv_sub hl [0, 1, 2] rfl)
  · have hf := qif_f hf c_1
    refine lv_aload_n hx hb dX3_swingAfter_7 rfl (lv_at hl 0 rfl) ?_
    refine qget_X3_3 hC hR hc qk_83 dX3_swingAfter_8 ?_
    refine lv_iconst (v := 1) hx hb dX3_swingAfter_11 (by decide) ?_
    refine lv_isub hx hb dX3_swingAfter_12 ?_
    refine lv_goto (tgt := 17) hx hb dX3_swingAfter_13 (by decide) ?_
    exact mX3_swingAfter_L17 hc hC hr _ _ _ _ _ _ hf hR (lv_sub hl [0, 1, 2] rfl)
-- X3.shakeLamp
def fX3_shakeLamp (w : qMem) (c : Nat) (a1 : Int32) (a2 : Int32) : Option (Int32 × qMem) :=
  if w c 4 = 0 then
    qbd (fX3_swingAfter w c a1 a2) fun (r3 : Int32) =>
    qnm (quw w c 3 r3) fun (w4 : qMem) =>
    if w4 c 3 ≤ 20 then
      qnm (quw w4 c 4 0) fun (w6 : qMem) =>
      if qisB (w6 c 4) = true then
      some (w6 c 4, w6)
      else none
    else
      qnm (quw w4 c 4 1) fun (w8 : qMem) =>
      if qisB (w8 c 4) = true then
      some (w8 c 4, w8)
      else none
  else
    some (0, w)
theorem qhd_X3_shakeLamp : yX3_shakeLamp.cls ≠ "java/lang/invoke/MethodHandle" ∧ yX3_shakeLamp.cls ≠ "java/lang/invoke/VarHandle" ∧ (parseMethodDescriptor yX3_shakeLamp.desc).map (fun d => d.parameters.length) = some 2 := ⟨by decide +kernel, by decide +kernel, by decide +kernel⟩
set_option maxHeartbeats 4000000 in
set_option maxRecDepth 100000 in
theorem mX3_shakeLamp {l : Launch} {D : va_G} {G : Nat → ClassId} {ad : Nat → Nat} (hJ : qInj ad) {w : qMem} {c : Nat} (hc : qisP c) {a1 : Int32} {a2 : Int32} {rF : Int32} {wF : qMem} (hf : fX3_shakeLamp w c a1 a2 = some (rF, wF)) : qCMi l D G ad yX3_shakeLamp cX3_shakeLamp 3 (some .boolean) 2 0 0 [.ref (ad (c)), .int a1, .int a2] w rF wF := by
  refine q_start RX3 rfl (by decide +kernel) hJ (fun a b h => by simp only [qQI, qQV, qQR, qQD, qQF, h]) (Nat.le_of_ble_eq_true rfl) ?_
  intro p e s m args below meth c0 ls hC hr hR hl
  have hx := hC.1
  have hb := hC.2.1
  have hl : lv_has ls 3 [(0, .ref (ad (c))), (1, .int a1), (2, .int a2)] := hl
  unfold fX3_shakeLamp at hf
  refine lv_aload_n hx hb dX3_shakeLamp_0 rfl (lv_at hl 0 rfl) ?_
  refine qget_X3_4 hC hR hc qk_87 dX3_shakeLamp_1 ?_
  refine lv_if_eq (tgt := 9) hx hb dX3_shakeLamp_4 (by decide) (fun c_1 => ?_) (fun c_1 => ?_)
  · have hf := qif_t hf c_1
    refine lv_aload_n hx hb dX3_shakeLamp_9 rfl (lv_at hl 0 rfl) ?_
    refine lv_aload_n hx hb dX3_shakeLamp_10 rfl (lv_at hl 0 rfl) ?_
    refine lv_iload_n hx hb dX3_shakeLamp_11 rfl (lv_at hl 1 rfl) ?_
    refine lv_iload_n hx hb dX3_shakeLamp_12 rfl (lv_at hl 2 rfl) ?_
    obtain ⟨r3, hq2, hf⟩ := qbd_s hf
    refine q_callVi hC hR (mX3_swingAfter (qJ hC) hc hq2) (qisP_lt hc) (qsh_prop G ad _ hc) rfl qk_385 qk_386 qk_387 qk_21 qk_388 qhd_X3_swingAfter ⟨Nat.le_of_ble_eq_true rfl, Nat.le_of_ble_eq_true rfl⟩ hl.1 rfl (Nat.le_of_ble_eq_true rfl) dX3_shakeLamp_13 ⟨Nat.zero_le _, Nat.zero_le _⟩ (fun H locs hR => ?_)
    refine qput_X3_3 hC hR hc qk_83 ⟨rfl, rfl⟩ dX3_shakeLamp_16 (fun w4 H locs ew4 hR => ?_)
    have hf := qnm_t hf ew4
    refine lv_aload_n hx hb dX3_shakeLamp_19 rfl (lv_at hl 0 rfl) ?_
    refine lv_aload_n hx hb dX3_shakeLamp_20 rfl (lv_at hl 0 rfl) ?_
    refine qget_X3_3 hC hR hc qk_83 dX3_shakeLamp_21 ?_
    refine lv_bipush (v := 20) hx hb dX3_shakeLamp_24 (by decide) ?_
    refine lv_icmp_le (tgt := 33) hx hb dX3_shakeLamp_26 (by decide) (fun c_5 => ?_) (fun c_5 => ?_)
    · have hf := qif_t hf c_5
      refine lv_iconst (v := 0) hx hb dX3_shakeLamp_33 (by decide) ?_
      refine qput_X3_4 hC hR hc qk_87 ⟨by decide, by decide⟩ dX3_shakeLamp_34 (fun w6 H locs ew6 hR => ?_)
      have hf := qnm_t hf ew6
      refine lv_aload_n hx hb dX3_shakeLamp_37 rfl (lv_at hl 0 rfl) ?_
      refine qget_X3_4 hC hR hc qk_87 dX3_shakeLamp_38 ?_
      obtain ⟨g7, hf⟩ := qgd hf
      exact q_iret hC hR hr (qisB_ok g7).1 (qso2 hf).1 (qso2 hf).2 dX3_shakeLamp_41
    · have hf := qif_f hf c_5
      refine lv_iconst (v := 1) hx hb dX3_shakeLamp_29 (by decide) ?_
      refine lv_goto (tgt := 34) hx hb dX3_shakeLamp_30 (by decide) ?_
      refine qput_X3_4 hC hR hc qk_87 ⟨by decide, by decide⟩ dX3_shakeLamp_34 (fun w8 H locs ew8 hR => ?_)
      have hf := qnm_t hf ew8
      refine lv_aload_n hx hb dX3_shakeLamp_37 rfl (lv_at hl 0 rfl) ?_
      refine qget_X3_4 hC hR hc qk_87 dX3_shakeLamp_38 ?_
      obtain ⟨g9, hf⟩ := qgd hf
      exact q_iret hC hR hr (qisB_ok g9).1 (qso2 hf).1 (qso2 hf).2 dX3_shakeLamp_41
  · have hf := qif_f hf c_1
    refine lv_iconst (v := 0) hx hb dX3_shakeLamp_7 (by decide) ?_
    exact q_iret hC hR hr (by decide) (qso2 hf).1 (qso2 hf).2 dX3_shakeLamp_8
-- X3.judge
def fX3_judge (w : qMem) (c : Nat) (a1 : Int32) (a2 : Int32) : Option (Int32 × qMem) :=
  if a2 = 0 then
    qnm (if 0 ≤ (w c 2) - a1 then (w c 2) - a1 else 0 - ((w c 2) - a1)) fun (x2 : Int32) =>
    qnm (5 - x2) fun (x3 : Int32) =>
    if 0 ≤ x3 then
      qnm (quw w c 6 ((w c 6) + x3)) fun (w5 : qMem) =>
      some (x3, w5)
    else
      qnm (quw w c 6 ((w c 6) + 0)) fun (w6 : qMem) =>
      some (0, w6)
  else
    if w c 2 ≤ 0 then
      qnm (quw w c 2 0) fun (w8 : qMem) =>
      some (0, w8)
    else
      qnm (quw w c 2 ((w c 2) - 1)) fun (w9 : qMem) =>
      some (0, w9)
theorem qhd_X3_judge : yX3_judge.cls ≠ "java/lang/invoke/MethodHandle" ∧ yX3_judge.cls ≠ "java/lang/invoke/VarHandle" ∧ (parseMethodDescriptor yX3_judge.desc).map (fun d => d.parameters.length) = some 2 := ⟨by decide +kernel, by decide +kernel, by decide +kernel⟩
set_option maxHeartbeats 4000000 in
set_option maxRecDepth 100000 in
theorem mX3_judge {l : Launch} {D : va_G} {G : Nat → ClassId} {ad : Nat → Nat} (hJ : qInj ad) {w : qMem} {c : Nat} (hc : qisP c) {a1 : Int32} {a2 : Int32} {rF : Int32} {wF : qMem} (hf : fX3_judge w c a1 a2 = some (rF, wF)) : qCMi l D G ad yX3_judge cX3_judge 4 (some .int) 2 0 0 [.ref (ad (c)), .int a1, .int a2] w rF wF := by
  refine q_start RX3 rfl (by decide +kernel) hJ (fun a b h => by simp only [qQI, qQV, qQR, qQD, qQF, h]) (Nat.le_of_ble_eq_true rfl) ?_
  intro p e s m args below meth c0 ls hC hr hR hl
  have hx := hC.1
  have hb := hC.2.1
  have hl : lv_has ls 4 [(0, .ref (ad (c))), (1, .int a1), (2, .int a2)] := hl
  unfold fX3_judge at hf
  refine lv_iload_n hx hb dX3_judge_0 rfl (lv_at hl 2 rfl) ?_
  refine lv_if_eq (tgt := 27) hx hb dX3_judge_1 (by decide) (fun c_1 => ?_) (fun c_1 => ?_)
  · have hf := qif_t hf c_1
    refine lv_iconst (v := 5) hx hb dX3_judge_27 (by decide) ?_
    refine lv_aload_n hx hb dX3_judge_28 rfl (lv_at hl 0 rfl) ?_
    refine qget_X3_2 hC hR hc qk_79 dX3_judge_29 ?_
    refine lv_iload_n hx hb dX3_judge_32 rfl (lv_at hl 1 rfl) ?_
    refine lv_isub hx hb dX3_judge_33 ?_
    refine va_mabs hx hb (hC.2.2.1.trans hl.1.symm) hC.2.2.2.1 (hC.2.2.2.2.1 _ qk_401) (hC.2.2.2.2.1 _ qk_402) (hC.2.2.2.2.1 _ qk_25) (hC.2.2.2.2.1 _ qk_403) (Nat.le_of_ble_eq_true rfl) (Nat.le_of_ble_eq_true rfl) (Nat.zero_le _) (Nat.zero_le _) dX3_judge_34 ?_
    refine lv_topi (fun x2 ex2 => ?_)
    have hf := qnm_t hf ex2
    refine lv_isub hx hb dX3_judge_37 ?_
    refine lv_topi (fun x3 ex3 => ?_)
    have hf := qnm_t hf ex3
    refine lv_istore_n (lv' := [(3, .int x3), (0, .ref (ad (c))), (1, .int a1), (2, .int a2)]) hx hb dX3_judge_38 rfl hl (by decide) rfl (fun ls hl => ?_)
    refine lv_iload_n hx hb dX3_judge_39 rfl (lv_at hl 0 rfl) ?_
    refine lv_if_ge (tgt := 45) hx hb dX3_judge_40 (by decide) (fun c_4 => ?_) (fun c_4 => ?_)
    · have hf := qif_t hf c_4
      refine lv_aload_n hx hb dX3_judge_45 rfl (lv_at hl 1 rfl) ?_
      refine lv_dup hx hb dX3_judge_46 rfl ?_
      refine qget_X3_6 hC hR hc qk_94 dX3_judge_47 ?_
      refine lv_iload_n hx hb dX3_judge_50 rfl (lv_at hl 0 rfl) ?_
      refine lv_iadd hx hb dX3_judge_51 ?_
      refine qput_X3_6 hC hR hc qk_94 ⟨rfl, rfl⟩ dX3_judge_52 (fun w5 H locs ew5 hR => ?_)
      have hf := qnm_t hf ew5
      refine lv_iload_n hx hb dX3_judge_55 rfl (lv_at hl 0 rfl) ?_
      exact q_iret hC hR hr rfl (qso2 hf).1 (qso2 hf).2 dX3_judge_56
    · have hf := qif_f hf c_4
      refine lv_iconst (v := 0) hx hb dX3_judge_43 (by decide) ?_
      refine lv_istore_n (lv' := [(3, .int 0), (0, .ref (ad (c))), (1, .int a1), (2, .int a2)]) hx hb dX3_judge_44 rfl hl (by decide) rfl (fun ls hl => ?_)
      refine lv_aload_n hx hb dX3_judge_45 rfl (lv_at hl 1 rfl) ?_
      refine lv_dup hx hb dX3_judge_46 rfl ?_
      refine qget_X3_6 hC hR hc qk_94 dX3_judge_47 ?_
      refine lv_iload_n hx hb dX3_judge_50 rfl (lv_at hl 0 rfl) ?_
      refine lv_iadd hx hb dX3_judge_51 ?_
      refine qput_X3_6 hC hR hc qk_94 ⟨rfl, rfl⟩ dX3_judge_52 (fun w6 H locs ew6 hR => ?_)
      have hf := qnm_t hf ew6
      refine lv_iload_n hx hb dX3_judge_55 rfl (lv_at hl 0 rfl) ?_
      exact q_iret hC hR hr rfl (qso2 hf).1 (qso2 hf).2 dX3_judge_56
  · have hf := qif_f hf c_1
    refine lv_aload_n hx hb dX3_judge_4 rfl (lv_at hl 0 rfl) ?_
    refine lv_aload_n hx hb dX3_judge_5 rfl (lv_at hl 0 rfl) ?_
    refine qget_X3_2 hC hR hc qk_79 dX3_judge_6 ?_
    refine lv_if_le (tgt := 21) hx hb dX3_judge_9 (by decide) (fun c_7 => ?_) (fun c_7 => ?_)
    · have hf := qif_t hf c_7
      refine lv_iconst (v := 0) hx hb dX3_judge_21 (by decide) ?_
      refine qput_X3_2 hC hR hc qk_79 ⟨rfl, rfl⟩ dX3_judge_22 (fun w8 H locs ew8 hR => ?_)
      have hf := qnm_t hf ew8
      refine lv_iconst (v := 0) hx hb dX3_judge_25 (by decide) ?_
      exact q_iret hC hR hr rfl (qso2 hf).1 (qso2 hf).2 dX3_judge_26
    · have hf := qif_f hf c_7
      refine lv_aload_n hx hb dX3_judge_12 rfl (lv_at hl 0 rfl) ?_
      refine qget_X3_2 hC hR hc qk_79 dX3_judge_13 ?_
      refine lv_iconst (v := 1) hx hb dX3_judge_16 (by decide) ?_
      refine lv_isub hx hb dX3_judge_17 ?_
      refine lv_goto (tgt := 22) hx hb dX3_judge_18 (by decide) ?_
      refine qput_X3_2 hC hR hc qk_79 ⟨rfl, rfl⟩ dX3_judge_22 (fun w9 H locs ew9 hR => ?_)
      have hf := qnm_t hf ew9
      refine lv_iconst (v := 0) hx hb dX3_judge_25 (by decide) ?_
      exact q_iret hC hR hr rfl (qso2 hf).1 (qso2 hf).2 dX3_judge_26
-- X3.wouldBreakBy
def fX3_wouldBreakBy (w : qMem) (c : Nat) (a1 : Int32) (a2 : Int32) : Option (Int32) :=
  if w c 0 = 1 then
    if w c 3 = 2 then
      if a1 < w c 2 then
        some (0)
      else
        some (1)
    else
      some (0)
  else
    if w c 0 = 2 then
      if (20 : Int32) < w c 3 then
        some (0)
      else
        qbd (fX3_swingAfter w c a1 a2) fun (r5 : Int32) =>
        if r5 ≤ 20 then
          some (0)
        else
          some (1)
    else
      some (0)
theorem qhd_X3_wouldBreakBy : yX3_wouldBreakBy.cls ≠ "java/lang/invoke/MethodHandle" ∧ yX3_wouldBreakBy.cls ≠ "java/lang/invoke/VarHandle" ∧ (parseMethodDescriptor yX3_wouldBreakBy.desc).map (fun d => d.parameters.length) = some 2 := ⟨by decide +kernel, by decide +kernel, by decide +kernel⟩
set_option maxHeartbeats 4000000 in
set_option maxRecDepth 100000 in
theorem mX3_wouldBreakBy {l : Launch} {D : va_G} {G : Nat → ClassId} {ad : Nat → Nat} (hJ : qInj ad) {w : qMem} {c : Nat} (hc : qisP c) {a1 : Int32} {a2 : Int32} {rF : Int32} (hf : fX3_wouldBreakBy w c a1 a2 = some rF) : qCMi l D G ad yX3_wouldBreakBy cX3_wouldBreakBy 3 (some .boolean) 2 0 0 [.ref (ad (c)), .int a1, .int a2] w rF w := by
  refine q_start RX3 rfl (by decide +kernel) hJ (fun a b h => by simp only [qQI, qQV, qQR, qQD, qQF, h]) (Nat.le_of_ble_eq_true rfl) ?_
  intro p e s m args below meth c0 ls hC hr hR hl
  have hx := hC.1
  have hb := hC.2.1
  have hl : lv_has ls 3 [(0, .ref (ad (c))), (1, .int a1), (2, .int a2)] := hl
  unfold fX3_wouldBreakBy at hf
  refine lv_aload_n hx hb dX3_wouldBreakBy_0 rfl (lv_at hl 0 rfl) ?_
  refine qget_X3_0 hC hR hc qk_71 dX3_wouldBreakBy_1 ?_
  refine lv_iconst (v := 1) hx hb dX3_wouldBreakBy_4 (by decide) ?_
  refine lv_icmp_ne (tgt := 30) hx hb dX3_wouldBreakBy_5 (by decide) (fun c_1 => ?_) (fun c_1 => ?_)
  · have hf := qif_f hf c_1
    refine lv_aload_n hx hb dX3_wouldBreakBy_30 rfl (lv_at hl 0 rfl) ?_
    refine qget_X3_0 hC hR hc qk_71 dX3_wouldBreakBy_31 ?_
    refine lv_iconst (v := 2) hx hb dX3_wouldBreakBy_34 (by decide) ?_
    refine lv_icmp_ne (tgt := 62) hx hb dX3_wouldBreakBy_35 (by decide) (fun c_2 => ?_) (fun c_2 => ?_)
    · have hf := qif_f hf c_2
      refine lv_iconst (v := 0) hx hb dX3_wouldBreakBy_62 (by decide) ?_
      exact q_iret hC hR hr (by decide) (qso hf) rfl dX3_wouldBreakBy_63
    · have hf := qif_t hf c_2
      refine lv_aload_n hx hb dX3_wouldBreakBy_38 rfl (lv_at hl 0 rfl) ?_
      refine qget_X3_3 hC hR hc qk_83 dX3_wouldBreakBy_39 ?_
      refine lv_bipush (v := 20) hx hb dX3_wouldBreakBy_42 (by decide) ?_
      refine lv_icmp_gt (tgt := 62) hx hb dX3_wouldBreakBy_44 (by decide) (fun c_3 => ?_) (fun c_3 => ?_)
      · have hf := qif_t hf c_3
        refine lv_iconst (v := 0) hx hb dX3_wouldBreakBy_62 (by decide) ?_
        exact q_iret hC hR hr (by decide) (qso hf) rfl dX3_wouldBreakBy_63
      · have hf := qif_f hf c_3
        refine lv_aload_n hx hb dX3_wouldBreakBy_47 rfl (lv_at hl 0 rfl) ?_
        refine lv_iload_n hx hb dX3_wouldBreakBy_48 rfl (lv_at hl 1 rfl) ?_
        refine lv_iload_n hx hb dX3_wouldBreakBy_49 rfl (lv_at hl 2 rfl) ?_
        obtain ⟨r5, hq4, hf⟩ := qbd_s hf
        refine q_callVi hC hR (mX3_swingAfter (qJ hC) hc hq4) (qisP_lt hc) (qsh_prop G ad _ hc) rfl qk_385 qk_386 qk_387 qk_21 qk_388 qhd_X3_swingAfter ⟨Nat.le_of_ble_eq_true rfl, Nat.le_of_ble_eq_true rfl⟩ hl.1 rfl (Nat.le_of_ble_eq_true rfl) dX3_wouldBreakBy_50 ⟨Nat.zero_le _, Nat.zero_le _⟩ (fun H locs hR => ?_)
        refine lv_bipush (v := 20) hx hb dX3_wouldBreakBy_53 (by decide) ?_
        refine lv_icmp_le (tgt := 62) hx hb dX3_wouldBreakBy_55 (by decide) (fun c_6 => ?_) (fun c_6 => ?_)
        · have hf := qif_t hf c_6
          refine lv_iconst (v := 0) hx hb dX3_wouldBreakBy_62 (by decide) ?_
          exact q_iret hC hR hr (by decide) (qso hf) rfl dX3_wouldBreakBy_63
        · have hf := qif_f hf c_6
          refine lv_iconst (v := 1) hx hb dX3_wouldBreakBy_58 (by decide) ?_
          refine lv_goto (tgt := 63) hx hb dX3_wouldBreakBy_59 (by decide) ?_
          exact q_iret hC hR hr (by decide) (qso hf) rfl dX3_wouldBreakBy_63
  · have hf := qif_t hf c_1
    refine lv_aload_n hx hb dX3_wouldBreakBy_8 rfl (lv_at hl 0 rfl) ?_
    refine qget_X3_3 hC hR hc qk_83 dX3_wouldBreakBy_9 ?_
    refine lv_iconst (v := 2) hx hb dX3_wouldBreakBy_12 (by decide) ?_
    refine lv_icmp_ne (tgt := 28) hx hb dX3_wouldBreakBy_13 (by decide) (fun c_7 => ?_) (fun c_7 => ?_)
    · have hf := qif_f hf c_7
      refine lv_iconst (v := 0) hx hb dX3_wouldBreakBy_28 (by decide) ?_
      exact q_iret hC hR hr (by decide) (qso hf) rfl dX3_wouldBreakBy_29
    · have hf := qif_t hf c_7
      refine lv_iload_n hx hb dX3_wouldBreakBy_16 rfl (lv_at hl 1 rfl) ?_
      refine lv_aload_n hx hb dX3_wouldBreakBy_17 rfl (lv_at hl 0 rfl) ?_
      refine qget_X3_2 hC hR hc qk_79 dX3_wouldBreakBy_18 ?_
      refine lv_icmp_lt (tgt := 28) hx hb dX3_wouldBreakBy_21 (by decide) (fun c_8 => ?_) (fun c_8 => ?_)
      · have hf := qif_t hf c_8
        refine lv_iconst (v := 0) hx hb dX3_wouldBreakBy_28 (by decide) ?_
        exact q_iret hC hR hr (by decide) (qso hf) rfl dX3_wouldBreakBy_29
      · have hf := qif_f hf c_8
        refine lv_iconst (v := 1) hx hb dX3_wouldBreakBy_24 (by decide) ?_
        refine lv_goto (tgt := 29) hx hb dX3_wouldBreakBy_25 (by decide) ?_
        exact q_iret hC hR hr (by decide) (qso hf) rfl dX3_wouldBreakBy_29
-- X3.isDamageRight
def fX3_isDamageRight (w : qMem) (c : Nat)  : Option (Int32) :=
  if w c 0 = 1 then
    if w c 3 = 3 then
      if w c 4 = 1 then
        some (1)
      else
        some (0)
    else
      if w c 4 = 0 then
        some (1)
      else
        some (0)
  else
    if w c 0 = 2 then
      if w c 3 ≤ 20 then
        if w c 4 = 0 then
          some (1)
        else
          some (0)
      else
        if w c 4 = 1 then
          some (1)
        else
          some (0)
    else
      some (1)
theorem qhd_X3_isDamageRight : yX3_isDamageRight.cls ≠ "java/lang/invoke/MethodHandle" ∧ yX3_isDamageRight.cls ≠ "java/lang/invoke/VarHandle" ∧ (parseMethodDescriptor yX3_isDamageRight.desc).map (fun d => d.parameters.length) = some 0 := ⟨by decide +kernel, by decide +kernel, by decide +kernel⟩
set_option maxHeartbeats 4000000 in
set_option maxRecDepth 100000 in
theorem mX3_isDamageRight {l : Launch} {D : va_G} {G : Nat → ClassId} {ad : Nat → Nat} (hJ : qInj ad) {w : qMem} {c : Nat} (hc : qisP c)  {rF : Int32} (hf : fX3_isDamageRight w c = some rF) : qCMi l D G ad yX3_isDamageRight cX3_isDamageRight 1 (some .boolean) 1 0 0 [.ref (ad (c))] w rF w := by
  refine q_start RX3 rfl (by decide +kernel) hJ (fun a b h => by simp only [qQI, qQV, qQR, qQD, qQF, h]) (Nat.le_of_ble_eq_true rfl) ?_
  intro p e s m args below meth c0 ls hC hr hR hl
  have hx := hC.1
  have hb := hC.2.1
  have hl : lv_has ls 1 [(0, .ref (ad (c)))] := hl
  unfold fX3_isDamageRight at hf
  refine lv_aload_n hx hb dX3_isDamageRight_0 rfl (lv_at hl 0 rfl) ?_
  refine qget_X3_0 hC hR hc qk_71 dX3_isDamageRight_1 ?_
  refine lv_iconst (v := 1) hx hb dX3_isDamageRight_4 (by decide) ?_
  refine lv_icmp_ne (tgt := 34) hx hb dX3_isDamageRight_5 (by decide) (fun c_1 => ?_) (fun c_1 => ?_)
  · have hf := qif_f hf c_1
    refine lv_aload_n hx hb dX3_isDamageRight_34 rfl (lv_at hl 0 rfl) ?_
    refine qget_X3_0 hC hR hc qk_71 dX3_isDamageRight_35 ?_
    refine lv_iconst (v := 2) hx hb dX3_isDamageRight_38 (by decide) ?_
    refine lv_icmp_ne (tgt := 63) hx hb dX3_isDamageRight_39 (by decide) (fun c_2 => ?_) (fun c_2 => ?_)
    · have hf := qif_f hf c_2
      refine lv_iconst (v := 1) hx hb dX3_isDamageRight_63 (by decide) ?_
      refine lv_goto (tgt := 68) hx hb dX3_isDamageRight_64 (by decide) ?_
      exact q_iret hC hR hr (by decide) (qso hf) rfl dX3_isDamageRight_68
    · have hf := qif_t hf c_2
      refine lv_aload_n hx hb dX3_isDamageRight_42 rfl (lv_at hl 0 rfl) ?_
      refine qget_X3_4 hC hR hc qk_87 dX3_isDamageRight_43 ?_
      refine lv_aload_n hx hb dX3_isDamageRight_46 rfl (lv_at hl 0 rfl) ?_
      refine qget_X3_3 hC hR hc qk_83 dX3_isDamageRight_47 ?_
      refine lv_bipush (v := 20) hx hb dX3_isDamageRight_50 (by decide) ?_
      refine lv_icmp_le (tgt := 59) hx hb dX3_isDamageRight_52 (by decide) (fun c_3 => ?_) (fun c_3 => ?_)
      · have hf := qif_t hf c_3
        refine lv_iconst (v := 0) hx hb dX3_isDamageRight_59 (by decide) ?_
        refine lv_icmp_ne (tgt := 67) hx hb dX3_isDamageRight_60 (by decide) (fun c_4 => ?_) (fun c_4 => ?_)
        · have hf := qif_f hf c_4
          refine lv_iconst (v := 0) hx hb dX3_isDamageRight_67 (by decide) ?_
          exact q_iret hC hR hr (by decide) (qso hf) rfl dX3_isDamageRight_68
        · have hf := qif_t hf c_4
          refine lv_iconst (v := 1) hx hb dX3_isDamageRight_63 (by decide) ?_
          refine lv_goto (tgt := 68) hx hb dX3_isDamageRight_64 (by decide) ?_
          exact q_iret hC hR hr (by decide) (qso hf) rfl dX3_isDamageRight_68
      · have hf := qif_f hf c_3
        refine lv_iconst (v := 1) hx hb dX3_isDamageRight_55 (by decide) ?_
        refine lv_goto (tgt := 60) hx hb dX3_isDamageRight_56 (by decide) ?_
        refine lv_icmp_ne (tgt := 67) hx hb dX3_isDamageRight_60 (by decide) (fun c_5 => ?_) (fun c_5 => ?_)
        · have hf := qif_f hf c_5
          refine lv_iconst (v := 0) hx hb dX3_isDamageRight_67 (by decide) ?_
          exact q_iret hC hR hr (by decide) (qso hf) rfl dX3_isDamageRight_68
        · have hf := qif_t hf c_5
          refine lv_iconst (v := 1) hx hb dX3_isDamageRight_63 (by decide) ?_
          refine lv_goto (tgt := 68) hx hb dX3_isDamageRight_64 (by decide) ?_
          exact q_iret hC hR hr (by decide) (qso hf) rfl dX3_isDamageRight_68
  · have hf := qif_t hf c_1
    refine lv_aload_n hx hb dX3_isDamageRight_8 rfl (lv_at hl 0 rfl) ?_
    refine qget_X3_4 hC hR hc qk_87 dX3_isDamageRight_9 ?_
    refine lv_aload_n hx hb dX3_isDamageRight_12 rfl (lv_at hl 0 rfl) ?_
    refine qget_X3_3 hC hR hc qk_83 dX3_isDamageRight_13 ?_
    refine lv_iconst (v := 3) hx hb dX3_isDamageRight_16 (by decide) ?_
    refine lv_icmp_ne (tgt := 24) hx hb dX3_isDamageRight_17 (by decide) (fun c_6 => ?_) (fun c_6 => ?_)
    · have hf := qif_f hf c_6
      refine lv_iconst (v := 0) hx hb dX3_isDamageRight_24 (by decide) ?_
      refine lv_icmp_ne (tgt := 32) hx hb dX3_isDamageRight_25 (by decide) (fun c_7 => ?_) (fun c_7 => ?_)
      · have hf := qif_f hf c_7
        refine lv_iconst (v := 0) hx hb dX3_isDamageRight_32 (by decide) ?_
        exact q_iret hC hR hr (by decide) (qso hf) rfl dX3_isDamageRight_33
      · have hf := qif_t hf c_7
        refine lv_iconst (v := 1) hx hb dX3_isDamageRight_28 (by decide) ?_
        refine lv_goto (tgt := 33) hx hb dX3_isDamageRight_29 (by decide) ?_
        exact q_iret hC hR hr (by decide) (qso hf) rfl dX3_isDamageRight_33
    · have hf := qif_t hf c_6
      refine lv_iconst (v := 1) hx hb dX3_isDamageRight_20 (by decide) ?_
      refine lv_goto (tgt := 25) hx hb dX3_isDamageRight_21 (by decide) ?_
      refine lv_icmp_ne (tgt := 32) hx hb dX3_isDamageRight_25 (by decide) (fun c_8 => ?_) (fun c_8 => ?_)
      · have hf := qif_f hf c_8
        refine lv_iconst (v := 0) hx hb dX3_isDamageRight_32 (by decide) ?_
        exact q_iret hC hR hr (by decide) (qso hf) rfl dX3_isDamageRight_33
      · have hf := qif_t hf c_8
        refine lv_iconst (v := 1) hx hb dX3_isDamageRight_28 (by decide) ?_
        refine lv_goto (tgt := 33) hx hb dX3_isDamageRight_29 (by decide) ?_
        exact q_iret hC hR hr (by decide) (qso hf) rfl dX3_isDamageRight_33
-- X3.orderTo
def fX3_orderTo (w : qMem) (c : Nat) (c1 : Nat)  : Option (Int32) :=
  if w c 0 = 1 then
    qbd (fJ6_compare_7cf53 w (w c1 2) (w c 2)) fun (r11 : Int32) =>
    if r11 = 0 then
      qbd (fJ6_compare_7cf53 w (w c 3) (w c1 3)) fun (r14 : Int32) =>
      some (r14)
    else
      some (r11)
  else
    if w c 0 = 2 then
      qbd (fJ6_compare_7cf53 w (w c1 3) (w c 3)) fun (r6 : Int32) =>
      if r6 = 0 then
        qbd (fJ6_compare_7cf53 w (w c1 2) (w c 2)) fun (r9 : Int32) =>
        some (r9)
      else
        some (r6)
    else
      qbd (fJ6_compare_7cf53 w (w c1 6) (w c 6)) fun (r4 : Int32) =>
      some (r4)
theorem qhd_X3_orderTo : yX3_orderTo.cls ≠ "java/lang/invoke/MethodHandle" ∧ yX3_orderTo.cls ≠ "java/lang/invoke/VarHandle" ∧ (parseMethodDescriptor yX3_orderTo.desc).map (fun d => d.parameters.length) = some 1 := ⟨by decide +kernel, by decide +kernel, by decide +kernel⟩
set_option maxHeartbeats 4000000 in
set_option maxRecDepth 100000 in
theorem mX3_orderTo {l : Launch} {D : va_G} {G : Nat → ClassId} {ad : Nat → Nat} (hJ : qInj ad) {w : qMem} {c : Nat} {c1 : Nat} (hc : qisP c) (hc1 : qisP c1)  {rF : Int32} (hf : fX3_orderTo w c c1 = some rF) : qCMi l D G ad yX3_orderTo cX3_orderTo 3 (some .int) 2 0 0 [.ref (ad (c)), .ref (ad (c1))] w rF w := by
  refine q_start RX3 rfl (by decide +kernel) hJ (fun a b h => by simp only [qQI, qQV, qQR, qQD, qQF, h]) (Nat.le_of_ble_eq_true rfl) ?_
  intro p e s m args below meth c0 ls hC hr hR hl
  have hx := hC.1
  have hb := hC.2.1
  have hl : lv_has ls 3 [(0, .ref (ad (c))), (1, .ref (ad (c1)))] := hl
  unfold fX3_orderTo at hf
  refine lv_aload_n hx hb dX3_orderTo_0 rfl (lv_at hl 0 rfl) ?_
  refine qget_X3_0 hC hR hc qk_71 dX3_orderTo_1 ?_
  refine lv_iconst (v := 1) hx hb dX3_orderTo_4 (by decide) ?_
  refine lv_icmp_ne (tgt := 40) hx hb dX3_orderTo_5 (by decide) (fun c_1 => ?_) (fun c_1 => ?_)
  · have hf := qif_f hf c_1
    refine lv_aload_n hx hb dX3_orderTo_40 rfl (lv_at hl 0 rfl) ?_
    refine qget_X3_0 hC hR hc qk_71 dX3_orderTo_41 ?_
    refine lv_iconst (v := 2) hx hb dX3_orderTo_44 (by decide) ?_
    refine lv_icmp_ne (tgt := 80) hx hb dX3_orderTo_45 (by decide) (fun c_2 => ?_) (fun c_2 => ?_)
    · have hf := qif_f hf c_2
      refine lv_aload_n hx hb dX3_orderTo_80 rfl (lv_at hl 1 rfl) ?_
      refine qget_X3_6 hC hR hc1 qk_94 dX3_orderTo_81 ?_
      refine lv_aload_n hx hb dX3_orderTo_84 rfl (lv_at hl 0 rfl) ?_
      refine qget_X3_6 hC hR hc qk_94 dX3_orderTo_85 ?_
      obtain ⟨r4, hq3, hf⟩ := qbd_s hf
      refine q_callSi hC hR (mJ6_compare_7cf53 (qJ hC) hq3) qk_805 qk_806 qk_36 qk_807 qhd_J6_compare_7cf53 ⟨Nat.le_of_ble_eq_true rfl, Nat.le_of_ble_eq_true rfl⟩ hl.1 rfl (Nat.le_of_ble_eq_true rfl) dX3_orderTo_88 ⟨Nat.zero_le _, Nat.zero_le _⟩ (fun H locs hR => ?_)
      exact q_iret hC hR hr rfl (qso hf) rfl dX3_orderTo_91
    · have hf := qif_t hf c_2
      refine lv_aload_n hx hb dX3_orderTo_48 rfl (lv_at hl 1 rfl) ?_
      refine qget_X3_3 hC hR hc1 qk_83 dX3_orderTo_49 ?_
      refine lv_aload_n hx hb dX3_orderTo_52 rfl (lv_at hl 0 rfl) ?_
      refine qget_X3_3 hC hR hc qk_83 dX3_orderTo_53 ?_
      obtain ⟨r6, hq5, hf⟩ := qbd_s hf
      refine q_callSi hC hR (mJ6_compare_7cf53 (qJ hC) hq5) qk_805 qk_806 qk_36 qk_807 qhd_J6_compare_7cf53 ⟨Nat.le_of_ble_eq_true rfl, Nat.le_of_ble_eq_true rfl⟩ hl.1 rfl (Nat.le_of_ble_eq_true rfl) dX3_orderTo_56 ⟨Nat.zero_le _, Nat.zero_le _⟩ (fun H locs hR => ?_)
      refine lv_istore_n (lv' := [(2, .int r6), (0, .ref (ad (c))), (1, .ref (ad (c1)))]) hx hb dX3_orderTo_59 rfl hl (by decide) rfl (fun ls hl => ?_)
      refine lv_iload_n hx hb dX3_orderTo_60 rfl (lv_at hl 0 rfl) ?_
      refine lv_if_eq (tgt := 68) hx hb dX3_orderTo_61 (by decide) (fun c_7 => ?_) (fun c_7 => ?_)
      · have hf := qif_t hf c_7
        refine lv_aload_n hx hb dX3_orderTo_68 rfl (lv_at hl 2 rfl) ?_
        refine qget_X3_2 hC hR hc1 qk_79 dX3_orderTo_69 ?_
        refine lv_aload_n hx hb dX3_orderTo_72 rfl (lv_at hl 1 rfl) ?_
        refine qget_X3_2 hC hR hc qk_79 dX3_orderTo_73 ?_
        obtain ⟨r9, hq8, hf⟩ := qbd_s hf
        refine q_callSi hC hR (mJ6_compare_7cf53 (qJ hC) hq8) qk_805 qk_806 qk_36 qk_807 qhd_J6_compare_7cf53 ⟨Nat.le_of_ble_eq_true rfl, Nat.le_of_ble_eq_true rfl⟩ hl.1 rfl (Nat.le_of_ble_eq_true rfl) dX3_orderTo_76 ⟨Nat.zero_le _, Nat.zero_le _⟩ (fun H locs hR => ?_)
        exact q_iret hC hR hr rfl (qso hf) rfl dX3_orderTo_79
      · have hf := qif_f hf c_7
        refine lv_iload_n hx hb dX3_orderTo_64 rfl (lv_at hl 0 rfl) ?_
        refine lv_goto (tgt := 79) hx hb dX3_orderTo_65 (by decide) ?_
        exact q_iret hC hR hr rfl (qso hf) rfl dX3_orderTo_79
  · have hf := qif_t hf c_1
    refine lv_aload_n hx hb dX3_orderTo_8 rfl (lv_at hl 1 rfl) ?_
    refine qget_X3_2 hC hR hc1 qk_79 dX3_orderTo_9 ?_
    refine lv_aload_n hx hb dX3_orderTo_12 rfl (lv_at hl 0 rfl) ?_
    refine qget_X3_2 hC hR hc qk_79 dX3_orderTo_13 ?_
    obtain ⟨r11, hq10, hf⟩ := qbd_s hf
    refine q_callSi hC hR (mJ6_compare_7cf53 (qJ hC) hq10) qk_805 qk_806 qk_36 qk_807 qhd_J6_compare_7cf53 ⟨Nat.le_of_ble_eq_true rfl, Nat.le_of_ble_eq_true rfl⟩ hl.1 rfl (Nat.le_of_ble_eq_true rfl) dX3_orderTo_16 ⟨Nat.zero_le _, Nat.zero_le _⟩ (fun H locs hR => ?_)
    refine lv_istore_n (lv' := [(2, .int r11), (0, .ref (ad (c))), (1, .ref (ad (c1)))]) hx hb dX3_orderTo_19 rfl hl (by decide) rfl (fun ls hl => ?_)
    refine lv_iload_n hx hb dX3_orderTo_20 rfl (lv_at hl 0 rfl) ?_
    refine lv_if_eq (tgt := 28) hx hb dX3_orderTo_21 (by decide) (fun c_12 => ?_) (fun c_12 => ?_)
    · have hf := qif_t hf c_12
      refine lv_aload_n hx hb dX3_orderTo_28 rfl (lv_at hl 1 rfl) ?_
      refine qget_X3_3 hC hR hc qk_83 dX3_orderTo_29 ?_
      refine lv_aload_n hx hb dX3_orderTo_32 rfl (lv_at hl 2 rfl) ?_
      refine qget_X3_3 hC hR hc1 qk_83 dX3_orderTo_33 ?_
      obtain ⟨r14, hq13, hf⟩ := qbd_s hf
      refine q_callSi hC hR (mJ6_compare_7cf53 (qJ hC) hq13) qk_805 qk_806 qk_36 qk_807 qhd_J6_compare_7cf53 ⟨Nat.le_of_ble_eq_true rfl, Nat.le_of_ble_eq_true rfl⟩ hl.1 rfl (Nat.le_of_ble_eq_true rfl) dX3_orderTo_36 ⟨Nat.zero_le _, Nat.zero_le _⟩ (fun H locs hR => ?_)
      exact q_iret hC hR hr rfl (qso hf) rfl dX3_orderTo_39
    · have hf := qif_f hf c_12
      refine lv_iload_n hx hb dX3_orderTo_24 rfl (lv_at hl 0 rfl) ?_
      refine lv_goto (tgt := 39) hx hb dX3_orderTo_25 (by decide) ?_
      exact q_iret hC hR hr rfl (qso hf) rfl dX3_orderTo_39
