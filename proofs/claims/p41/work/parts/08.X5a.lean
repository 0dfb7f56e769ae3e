-- X5.isFloor
def fX5_isFloor (w : qMem)  (a1 : Int32) : Option (Int32) :=
  if a1 < 0 then
    some (0)
  else
    if (5 : Int32) ≤ a1 then
      some (0)
    else
      some (1)
theorem qhd_X5_isFloor : yX5_isFloor.cls ≠ "java/lang/invoke/MethodHandle" ∧ yX5_isFloor.cls ≠ "java/lang/invoke/VarHandle" ∧ (parseMethodDescriptor yX5_isFloor.desc).map (fun d => d.parameters.length) = some 1 := ⟨by decide +kernel, by decide +kernel, by decide +kernel⟩
set_option maxHeartbeats 4000000 in
set_option maxRecDepth 100000 in
theorem mX5_isFloor {l : Launch} {D : va_G} {G : Nat → ClassId} {ad : Nat → Nat} (hJ : qInj ad) {w : qMem}   {a1 : Int32} {rF : Int32} (hf : fX5_isFloor w a1 = some rF) : qCMi l D G ad yX5_isFloor cX5_isFloor 1 (some .boolean) 1 0 0 [.int a1] w rF w := by
  refine q_start RX5 rfl (by decide +kernel) hJ (fun a b h => by simp only [qQI, qQV, qQR, qQD, qQF, h]) (Nat.le_of_ble_eq_true rfl) ?_
  intro p e s m args below meth c0 ls hC hr hR hl
  have hx := hC.1
  have hb := hC.2.1
  have hl : lv_has ls 1 [(0, .int a1)] := hl
  unfold fX5_isFloor at hf
  refine lv_iload_n hx hb dX5_isFloor_0 rfl (lv_at hl 0 rfl) ?_
  refine lv_if_lt (tgt := 13) hx hb dX5_isFloor_1 (by decide) (fun c_1 => ?_) (fun c_1 => ?_)
  · have hf := qif_t hf c_1
    refine lv_iconst (v := 0) hx hb dX5_isFloor_13 (by decide) ?_
    exact q_iret hC hR hr (by decide) (qso hf) rfl dX5_isFloor_14
  · have hf := qif_f hf c_1
    refine lv_iload_n hx hb dX5_isFloor_4 rfl (lv_at hl 0 rfl) ?_
    refine lv_iconst (v := 5) hx hb dX5_isFloor_5 (by decide) ?_
    refine lv_icmp_ge (tgt := 13) hx hb dX5_isFloor_6 (by decide) (fun c_2 => ?_) (fun c_2 => ?_)
    · have hf := qif_t hf c_2
      refine lv_iconst (v := 0) hx hb dX5_isFloor_13 (by decide) ?_
      exact q_iret hC hR hr (by decide) (qso hf) rfl dX5_isFloor_14
    · have hf := qif_f hf c_2
      refine lv_iconst (v := 1) hx hb dX5_isFloor_9 (by decide) ?_
      refine lv_goto (tgt := 14) hx hb dX5_isFloor_10 (by decide) ?_
      exact q_iret hC hR hr (by decide) (qso hf) rfl dX5_isFloor_14
-- X5.isStrength
def fX5_isStrength (w : qMem)  (a1 : Int32) : Option (Int32) :=
  if a1 < 1 then
    some (0)
  else
    if (9 : Int32) < a1 then
      some (0)
    else
      some (1)
theorem qhd_X5_isStrength : yX5_isStrength.cls ≠ "java/lang/invoke/MethodHandle" ∧ yX5_isStrength.cls ≠ "java/lang/invoke/VarHandle" ∧ (parseMethodDescriptor yX5_isStrength.desc).map (fun d => d.parameters.length) = some 1 := ⟨by decide +kernel, by decide +kernel, by decide +kernel⟩
set_option maxHeartbeats 4000000 in
set_option maxRecDepth 100000 in
theorem mX5_isStrength {l : Launch} {D : va_G} {G : Nat → ClassId} {ad : Nat → Nat} (hJ : qInj ad) {w : qMem}   {a1 : Int32} {rF : Int32} (hf : fX5_isStrength w a1 = some rF) : qCMi l D G ad yX5_isStrength cX5_isStrength 1 (some .boolean) 1 0 0 [.int a1] w rF w := by
  refine q_start RX5 rfl (by decide +kernel) hJ (fun a b h => by simp only [qQI, qQV, qQR, qQD, qQF, h]) (Nat.le_of_ble_eq_true rfl) ?_
  intro p e s m args below meth c0 ls hC hr hR hl
  have hx := hC.1
  have hb := hC.2.1
  have hl : lv_has ls 1 [(0, .int a1)] := hl
  unfold fX5_isStrength at hf
  refine lv_iload_n hx hb dX5_isStrength_0 rfl (lv_at hl 0 rfl) ?_
  refine lv_iconst (v := 1) hx hb dX5_isStrength_1 (by decide) ?_
  refine lv_icmp_lt (tgt := 15) hx hb dX5_isStrength_2 (by decide) (fun c_1 => ?_) (fun c_1 => ?_)
  · have hf := qif_t hf c_1
    refine lv_iconst (v := 0) hx hb dX5_isStrength_15 (by decide) ?_
    exact q_iret hC hR hr (by decide) (qso hf) rfl dX5_isStrength_16
  · have hf := qif_f hf c_1
    refine lv_iload_n hx hb dX5_isStrength_5 rfl (lv_at hl 0 rfl) ?_
    refine lv_bipush (v := 9) hx hb dX5_isStrength_6 (by decide) ?_
    refine lv_icmp_gt (tgt := 15) hx hb dX5_isStrength_8 (by decide) (fun c_2 => ?_) (fun c_2 => ?_)
    · have hf := qif_t hf c_2
      refine lv_iconst (v := 0) hx hb dX5_isStrength_15 (by decide) ?_
      exact q_iret hC hR hr (by decide) (qso hf) rfl dX5_isStrength_16
    · have hf := qif_f hf c_2
      refine lv_iconst (v := 1) hx hb dX5_isStrength_11 (by decide) ?_
      refine lv_goto (tgt := 16) hx hb dX5_isStrength_12 (by decide) ?_
      exact q_iret hC hR hr (by decide) (qso hf) rfl dX5_isStrength_16
