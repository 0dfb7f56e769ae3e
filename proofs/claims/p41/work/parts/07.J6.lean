-- J6.compare_7cf53
def fJ6_compare_7cf53 (w : qMem)  (a1 : Int32) (a2 : Int32) : Option (Int32) :=
  if a2 ≤ a1 then
    if a1 = a2 then
      some (0)
    else
      some (1)
  else
    some ((-1))
theorem qhd_J6_compare_7cf53 : yJ6_compare_7cf53.cls ≠ "java/lang/invoke/MethodHandle" ∧ yJ6_compare_7cf53.cls ≠ "java/lang/invoke/VarHandle" ∧ (parseMethodDescriptor yJ6_compare_7cf53.desc).map (fun d => d.parameters.length) = some 2 := ⟨by decide +kernel, by decide +kernel, by decide +kernel⟩
set_option maxHeartbeats 4000000 in
set_option maxRecDepth 100000 in
theorem mJ6_compare_7cf53 {l : Launch} {D : va_G} {G : Nat → ClassId} {ad : Nat → Nat} (hJ : qInj ad) {w : qMem}   {a1 : Int32} {a2 : Int32} {rF : Int32} (hf : fJ6_compare_7cf53 w a1 a2 = some rF) : qCMi l D G ad yJ6_compare_7cf53 cJ6_compare_7cf53 2 (some .int) 1 0 0 [.int a1, .int a2] w rF w := by
  refine q_start RJ6 rfl (by decide +kernel) hJ (fun a b h => by simp only [qQI, qQV, qQR, qQD, qQF, h]) (Nat.le_of_ble_eq_true rfl) ?_
  intro p e s m args below meth c0 ls hC hr hR hl
  have hx := hC.1
  have hb := hC.2.1
  have hl : lv_has ls 2 [(0, .int a1), (1, .int a2)] := hl
  unfold fJ6_compare_7cf53 at hf
  refine lv_iload_n hx hb dJ6_compare_7cf53_0 rfl (lv_at hl 0 rfl) ?_
  refine lv_iload_n hx hb dJ6_compare_7cf53_1 rfl (lv_at hl 1 rfl) ?_
  refine lv_icmp_ge (tgt := 9) hx hb dJ6_compare_7cf53_2 (by decide) (fun c_1 => ?_) (fun c_1 => ?_)
  · have hf := qif_t hf c_1
    refine lv_iload_n hx hb dJ6_compare_7cf53_9 rfl (lv_at hl 0 rfl) ?_
    refine lv_iload_n hx hb dJ6_compare_7cf53_10 rfl (lv_at hl 1 rfl) ?_
    refine lv_icmp_ne (tgt := 18) hx hb dJ6_compare_7cf53_11 (by decide) (fun c_2 => ?_) (fun c_2 => ?_)
    · have hf := qif_f hf c_2
      refine lv_iconst (v := 1) hx hb dJ6_compare_7cf53_18 (by decide) ?_
      exact q_iret hC hR hr rfl (qso hf) rfl dJ6_compare_7cf53_19
    · have hf := qif_t hf c_2
      refine lv_iconst (v := 0) hx hb dJ6_compare_7cf53_14 (by decide) ?_
      refine lv_goto (tgt := 19) hx hb dJ6_compare_7cf53_15 (by decide) ?_
      exact q_iret hC hR hr rfl (qso hf) rfl dJ6_compare_7cf53_19
  · have hf := qif_f hf c_1
    refine lv_iconst (v := (-1)) hx hb dJ6_compare_7cf53_5 (by decide) ?_
    refine lv_goto (tgt := 19) hx hb dJ6_compare_7cf53_6 (by decide) ?_
    exact q_iret hC hR hr rfl (qso hf) rfl dJ6_compare_7cf53_19
