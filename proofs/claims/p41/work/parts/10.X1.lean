-- X1.note
def fX1_note (w : qMem) (h1 : Nat)  : Option (qMem) :=
  if w 229 1 < 0 then
    some w
  else
    if (9 : Int32) ≤ w 229 1 then
      some w
    else
      if qin (w 229 1) 9 = true then
      qbd (fX0_copyFrom w (3 + (w 229 1).toNatClampNeg) h1) fun (w5 : qMem) =>
      some w5
      else none
theorem qhd_X1_note : yX1_note.cls ≠ "java/lang/invoke/MethodHandle" ∧ yX1_note.cls ≠ "java/lang/invoke/VarHandle" ∧ (parseMethodDescriptor yX1_note.desc).map (fun d => d.parameters.length) = some 1 := ⟨by decide +kernel, by decide +kernel, by decide +kernel⟩
set_option maxHeartbeats 4000000 in
set_option maxRecDepth 100000 in
theorem mX1_note {l : Launch} {D : va_G} {G : Nat → ClassId} {ad : Nat → Nat} (hJ : qInj ad) {w : qMem} {h1 : Nat} (hh1 : h1 < 12)  {wF : qMem} (hf : fX1_note w h1 = some wF) : qCMv l D G ad yX1_note cX1_note 3 (none) 3 0 0 [.ref (ad 229), .ref (ad (19 * h1))] w wF := by
  refine q_start RX1 rfl (by decide +kernel) hJ (fun a b h => by simp only [qQI, qQV, qQR, qQD, qQF, h]) (Nat.le_of_ble_eq_true rfl) ?_
  intro p e s m args below meth c0 ls hC hr hR hl
  have hx := hC.1
  have hb := hC.2.1
  have hl : lv_has ls 3 [(0, .ref (ad 229)), (1, .ref (ad (19 * h1)))] := hl
  unfold fX1_note at hf
  refine lv_aload_n hx hb dX1_note_0 rfl (lv_at hl 0 rfl) ?_
  refine qget_X1_1 hC hR qk_171 dX1_note_1 ?_
  refine lv_if_lt (tgt := 38) hx hb dX1_note_4 (by decide) (fun c_1 => ?_) (fun c_1 => ?_)
  · have hf := qif_t hf c_1
    exact q_vret hC hR hr (qso hf) dX1_note_38
  · have hf := qif_f hf c_1
    refine lv_aload_n hx hb dX1_note_7 rfl (lv_at hl 0 rfl) ?_
    refine qget_X1_1 hC hR qk_171 dX1_note_8 ?_
    refine lv_aload_n hx hb dX1_note_11 rfl (lv_at hl 0 rfl) ?_
    refine qget_X1_0 hC hR qk_170 dX1_note_12 ?_
    refine q_alen (v := 9) hC hR (by decide) (qsh_230 G ad _) rfl (by decide) dX1_note_15 ?_
    refine lv_icmp_ge (tgt := 38) hx hb dX1_note_16 (by decide) (fun c_2 => ?_) (fun c_2 => ?_)
    · have hf := qif_t hf c_2
      exact q_vret hC hR hr (qso hf) dX1_note_38
    · have hf := qif_f hf c_2
      refine lv_aload_n hx hb dX1_note_19 rfl (lv_at hl 0 rfl) ?_
      refine qget_X1_0 hC hR qk_170 dX1_note_20 ?_
      refine lv_aload_n hx hb dX1_note_23 rfl (lv_at hl 0 rfl) ?_
      refine qget_X1_1 hC hR qk_171 dX1_note_24 ?_
      obtain ⟨g3, hf⟩ := qgd hf
      refine q_ald hC hR (by decide) (qsh_230 G ad _) rfl g3 dX1_note_27 ?_
      refine lv_astore_n (lv' := [(2, .ref (ad (19 * ((3 + (w 229 1).toNatClampNeg))))), (0, .ref (ad 229)), (1, .ref (ad (19 * h1)))]) hx hb dX1_note_28 rfl hl (by decide) rfl (fun ls hl => ?_)
      refine lv_aload_n hx hb dX1_note_29 rfl (lv_at hl 0 rfl) ?_
      refine lv_ifnull hx hb dX1_note_30 ?_
      refine lv_aload_n hx hb dX1_note_33 rfl (lv_at hl 0 rfl) ?_
      refine lv_aload_n hx hb dX1_note_34 rfl (lv_at hl 2 rfl) ?_
      obtain ⟨w5, hq4, hf⟩ := qbd_s hf
      refine q_callVv hC hR (mX0_copyFrom (qJ hC) (qhall_in (qin_t g3)) hh1 hq4) (by have := (qhall_in (qin_t g3)); omega) (qsh_hall G ad _ (qhall_in (qin_t g3))) rfl qk_285 qk_286 qk_287 qk_20 qk_288 qhd_X0_copyFrom ⟨Nat.le_of_ble_eq_true rfl, Nat.le_of_ble_eq_true rfl⟩ hl.1 rfl (Nat.le_of_ble_eq_true rfl) dX1_note_35 ⟨Nat.zero_le _, Nat.zero_le _⟩ (fun H locs hR => ?_)
      exact q_vret hC hR hr (qso hf) dX1_note_38
-- X1.copyNoteTo
def fX1_copyNoteTo (w : qMem) (h1 : Nat)  : Option (qMem) :=
  if w 229 1 < 0 then
    some w
  else
    if (9 : Int32) ≤ w 229 1 then
      some w
    else
      if qin (w 229 1) 9 = true then
      qbd (fX0_copyFrom w h1 (3 + (w 229 1).toNatClampNeg)) fun (w5 : qMem) =>
      some w5
      else none
theorem qhd_X1_copyNoteTo : yX1_copyNoteTo.cls ≠ "java/lang/invoke/MethodHandle" ∧ yX1_copyNoteTo.cls ≠ "java/lang/invoke/VarHandle" ∧ (parseMethodDescriptor yX1_copyNoteTo.desc).map (fun d => d.parameters.length) = some 1 := ⟨by decide +kernel, by decide +kernel, by decide +kernel⟩
set_option maxHeartbeats 4000000 in
set_option maxRecDepth 100000 in
theorem mX1_copyNoteTo {l : Launch} {D : va_G} {G : Nat → ClassId} {ad : Nat → Nat} (hJ : qInj ad) {w : qMem} {h1 : Nat} (hh1 : h1 < 12)  {wF : qMem} (hf : fX1_copyNoteTo w h1 = some wF) : qCMv l D G ad yX1_copyNoteTo cX1_copyNoteTo 3 (none) 3 0 0 [.ref (ad 229), .ref (ad (19 * h1))] w wF := by
  refine q_start RX1 rfl (by decide +kernel) hJ (fun a b h => by simp only [qQI, qQV, qQR, qQD, qQF, h]) (Nat.le_of_ble_eq_true rfl) ?_
  intro p e s m args below meth c0 ls hC hr hR hl
  have hx := hC.1
  have hb := hC.2.1
  have hl : lv_has ls 3 [(0, .ref (ad 229)), (1, .ref (ad (19 * h1)))] := hl
  unfold fX1_copyNoteTo at hf
  refine lv_aload_n hx hb dX1_copyNoteTo_0 rfl (lv_at hl 0 rfl) ?_
  refine qget_X1_1 hC hR qk_171 dX1_copyNoteTo_1 ?_
  refine lv_if_lt (tgt := 38) hx hb dX1_copyNoteTo_4 (by decide) (fun c_1 => ?_) (fun c_1 => ?_)
  · have hf := qif_t hf c_1
    exact q_vret hC hR hr (qso hf) dX1_copyNoteTo_38
  · have hf := qif_f hf c_1
    refine lv_aload_n hx hb dX1_copyNoteTo_7 rfl (lv_at hl 0 rfl) ?_
    refine qget_X1_1 hC hR qk_171 dX1_copyNoteTo_8 ?_
    refine lv_aload_n hx hb dX1_copyNoteTo_11 rfl (lv_at hl 0 rfl) ?_
    refine qget_X1_0 hC hR qk_170 dX1_copyNoteTo_12 ?_
    refine q_alen (v := 9) hC hR (by decide) (qsh_230 G ad _) rfl (by decide) dX1_copyNoteTo_15 ?_
    refine lv_icmp_ge (tgt := 38) hx hb dX1_copyNoteTo_16 (by decide) (fun c_2 => ?_) (fun c_2 => ?_)
    · have hf := qif_t hf c_2
      exact q_vret hC hR hr (qso hf) dX1_copyNoteTo_38
    · have hf := qif_f hf c_2
      refine lv_aload_n hx hb dX1_copyNoteTo_19 rfl (lv_at hl 0 rfl) ?_
      refine qget_X1_0 hC hR qk_170 dX1_copyNoteTo_20 ?_
      refine lv_aload_n hx hb dX1_copyNoteTo_23 rfl (lv_at hl 0 rfl) ?_
      refine qget_X1_1 hC hR qk_171 dX1_copyNoteTo_24 ?_
      obtain ⟨g3, hf⟩ := qgd hf
      refine q_ald hC hR (by decide) (qsh_230 G ad _) rfl g3 dX1_copyNoteTo_27 ?_
      refine lv_astore_n (lv' := [(2, .ref (ad (19 * ((3 + (w 229 1).toNatClampNeg))))), (0, .ref (ad 229)), (1, .ref (ad (19 * h1)))]) hx hb dX1_copyNoteTo_28 rfl hl (by decide) rfl (fun ls hl => ?_)
      refine lv_aload_n hx hb dX1_copyNoteTo_29 rfl (lv_at hl 0 rfl) ?_
      refine lv_ifnull hx hb dX1_copyNoteTo_30 ?_
      refine lv_aload_n hx hb dX1_copyNoteTo_33 rfl (lv_at hl 2 rfl) ?_
      refine lv_aload_n hx hb dX1_copyNoteTo_34 rfl (lv_at hl 0 rfl) ?_
      obtain ⟨w5, hq4, hf⟩ := qbd_s hf
      refine q_callVv hC hR (mX0_copyFrom (qJ hC) hh1 (qhall_in (qin_t g3)) hq4) (by have := hh1; omega) (qsh_hall G ad _ hh1) rfl qk_285 qk_286 qk_287 qk_20 qk_288 qhd_X0_copyFrom ⟨Nat.le_of_ble_eq_true rfl, Nat.le_of_ble_eq_true rfl⟩ hl.1 rfl (Nat.le_of_ble_eq_true rfl) dX1_copyNoteTo_35 ⟨Nat.zero_le _, Nat.zero_le _⟩ (fun H locs hR => ?_)
      exact q_vret hC hR hr (qso hf) dX1_copyNoteTo_38
-- X1.keepNote
def fX1_keepNote (w : qMem)   : Option (qMem) :=
  if (8 : Int32) ≤ w 229 1 then
    qnm (quw w 229 1 0) fun (w2 : qMem) =>
    if (8 : Int32) ≤ w2 229 2 then
      some w2
    else
      qnm (quw w2 229 2 ((w2 229 2) + 1)) fun (w4 : qMem) =>
      some w4
  else
    qnm (quw w 229 1 ((w 229 1) + 1)) fun (w5 : qMem) =>
    if (8 : Int32) ≤ w5 229 2 then
      some w5
    else
      qnm (quw w5 229 2 ((w5 229 2) + 1)) fun (w7 : qMem) =>
      some w7
theorem qhd_X1_keepNote : yX1_keepNote.cls ≠ "java/lang/invoke/MethodHandle" ∧ yX1_keepNote.cls ≠ "java/lang/invoke/VarHandle" ∧ (parseMethodDescriptor yX1_keepNote.desc).map (fun d => d.parameters.length) = some 0 := ⟨by decide +kernel, by decide +kernel, by decide +kernel⟩
set_option maxHeartbeats 4000000 in
set_option maxRecDepth 100000 in
theorem mX1_keepNote {l : Launch} {D : va_G} {G : Nat → ClassId} {ad : Nat → Nat} (hJ : qInj ad) {w : qMem}    {wF : qMem} (hf : fX1_keepNote w = some wF) : qCMv l D G ad yX1_keepNote cX1_keepNote 1 (none) 1 0 0 [.ref (ad 229)] w wF := by
  refine q_start RX1 rfl (by decide +kernel) hJ (fun a b h => by simp only [qQI, qQV, qQR, qQD, qQF, h]) (Nat.le_of_ble_eq_true rfl) ?_
  intro p e s m args below meth c0 ls hC hr hR hl
  have hx := hC.1
  have hb := hC.2.1
  have hl : lv_has ls 1 [(0, .ref (ad 229))] := hl
  unfold fX1_keepNote at hf
  refine lv_aload_n hx hb dX1_keepNote_0 rfl (lv_at hl 0 rfl) ?_
  refine lv_aload_n hx hb dX1_keepNote_1 rfl (lv_at hl 0 rfl) ?_
  refine qget_X1_1 hC hR qk_171 dX1_keepNote_2 ?_
  refine lv_bipush (v := 8) hx hb dX1_keepNote_5 (by decide) ?_
  refine lv_icmp_ge (tgt := 19) hx hb dX1_keepNote_7 (by decide) (fun c_1 => ?_) (fun c_1 => ?_)
  · have hf := qif_t hf c_1
    refine lv_iconst (v := 0) hx hb dX1_keepNote_19 (by decide) ?_
    refine qput_X1_1 hC hR qk_171 ⟨rfl, rfl⟩ dX1_keepNote_20 (fun w2 H locs ew2 hR => ?_)
    have hf := qnm_t hf ew2
    refine lv_aload_n hx hb dX1_keepNote_23 rfl (lv_at hl 0 rfl) ?_
    refine qget_X1_2 hC hR qk_172 dX1_keepNote_24 ?_
    refine lv_bipush (v := 8) hx hb dX1_keepNote_27 (by decide) ?_
    refine lv_icmp_ge (tgt := 42) hx hb dX1_keepNote_29 (by decide) (fun c_3 => ?_) (fun c_3 => ?_)
    · have hf := qif_t hf c_3
      exact q_vret hC hR hr (qso hf) dX1_keepNote_42
    · have hf := qif_f hf c_3
      refine lv_aload_n hx hb dX1_keepNote_32 rfl (lv_at hl 0 rfl) ?_
      refine lv_dup hx hb dX1_keepNote_33 rfl ?_
      refine qget_X1_2 hC hR qk_172 dX1_keepNote_34 ?_
      refine lv_iconst (v := 1) hx hb dX1_keepNote_37 (by decide) ?_
      refine lv_iadd hx hb dX1_keepNote_38 ?_
      refine qput_X1_2 hC hR qk_172 ⟨rfl, rfl⟩ dX1_keepNote_39 (fun w4 H locs ew4 hR => ?_)
      have hf := qnm_t hf ew4
      exact q_vret hC hR hr (qso hf) dX1_keepNote_42
  · have hf := qif_f hf c_1
    refine lv_aload_n hx hb dX1_keepNote_10 rfl (lv_at hl 0 rfl) ?_
    refine qget_X1_1 hC hR qk_171 dX1_keepNote_11 ?_
    refine lv_iconst (v := 1) hx hb dX1_keepNote_14 (by decide) ?_
    refine lv_iadd hx hb dX1_keepNote_15 ?_
    refine lv_goto (tgt := 20) hx hb dX1_keepNote_16 (by decide) ?_
    refine qput_X1_1 hC hR qk_171 ⟨rfl, rfl⟩ dX1_keepNote_20 (fun w5 H locs ew5 hR => ?_)
    have hf := qnm_t hf ew5
    refine lv_aload_n hx hb dX1_keepNote_23 rfl (lv_at hl 0 rfl) ?_
    refine qget_X1_2 hC hR qk_172 dX1_keepNote_24 ?_
    refine lv_bipush (v := 8) hx hb dX1_keepNote_27 (by decide) ?_
    refine lv_icmp_ge (tgt := 42) hx hb dX1_keepNote_29 (by decide) (fun c_6 => ?_) (fun c_6 => ?_)
    · have hf := qif_t hf c_6
      exact q_vret hC hR hr (qso hf) dX1_keepNote_42
    · have hf := qif_f hf c_6
      refine lv_aload_n hx hb dX1_keepNote_32 rfl (lv_at hl 0 rfl) ?_
      refine lv_dup hx hb dX1_keepNote_33 rfl ?_
      refine qget_X1_2 hC hR qk_172 dX1_keepNote_34 ?_
      refine lv_iconst (v := 1) hx hb dX1_keepNote_37 (by decide) ?_
      refine lv_iadd hx hb dX1_keepNote_38 ?_
      refine qput_X1_2 hC hR qk_172 ⟨rfl, rfl⟩ dX1_keepNote_39 (fun w7 H locs ew7 hR => ?_)
      have hf := qnm_t hf ew7
      exact q_vret hC hR hr (qso hf) dX1_keepNote_42
-- X1.stepBack
def fX1_stepBack (w : qMem) (h1 : Nat)  : Option (qMem) :=
  if w 229 1 ≤ 0 then
    qnm (quw w 229 1 8) fun (w2 : qMem) =>
    qnm (quw w2 229 2 ((w2 229 2) - 1)) fun (w3 : qMem) =>
    qbd (fX1_copyNoteTo w3 h1) fun (w5 : qMem) =>
    some w5
  else
    qnm (quw w 229 1 ((w 229 1) - 1)) fun (w6 : qMem) =>
    qnm (quw w6 229 2 ((w6 229 2) - 1)) fun (w7 : qMem) =>
    qbd (fX1_copyNoteTo w7 h1) fun (w9 : qMem) =>
    some w9
theorem qhd_X1_stepBack : yX1_stepBack.cls ≠ "java/lang/invoke/MethodHandle" ∧ yX1_stepBack.cls ≠ "java/lang/invoke/VarHandle" ∧ (parseMethodDescriptor yX1_stepBack.desc).map (fun d => d.parameters.length) = some 1 := ⟨by decide +kernel, by decide +kernel, by decide +kernel⟩
set_option maxHeartbeats 4000000 in
set_option maxRecDepth 100000 in
theorem mX1_stepBack {l : Launch} {D : va_G} {G : Nat → ClassId} {ad : Nat → Nat} (hJ : qInj ad) {w : qMem} {h1 : Nat} (hh1 : h1 < 12)  {wF : qMem} (hf : fX1_stepBack w h1 = some wF) : qCMv l D G ad yX1_stepBack cX1_stepBack 2 (none) 4 0 0 [.ref (ad 229), .ref (ad (19 * h1))] w wF := by
  refine q_start RX1 rfl (by decide +kernel) hJ (fun a b h => by simp only [qQI, qQV, qQR, qQD, qQF, h]) (Nat.le_of_ble_eq_true rfl) ?_
  intro p e s m args below meth c0 ls hC hr hR hl
  have hx := hC.1
  have hb := hC.2.1
  have hl : lv_has ls 2 [(0, .ref (ad 229)), (1, .ref (ad (19 * h1)))] := hl
  unfold fX1_stepBack at hf
  refine lv_aload_n hx hb dX1_stepBack_0 rfl (lv_at hl 0 rfl) ?_
  refine lv_aload_n hx hb dX1_stepBack_1 rfl (lv_at hl 0 rfl) ?_
  refine qget_X1_1 hC hR qk_171 dX1_stepBack_2 ?_
  refine lv_if_le (tgt := 17) hx hb dX1_stepBack_5 (by decide) (fun c_1 => ?_) (fun c_1 => ?_)
  · have hf := qif_t hf c_1
    refine lv_bipush (v := 8) hx hb dX1_stepBack_17 (by decide) ?_
    refine qput_X1_1 hC hR qk_171 ⟨rfl, rfl⟩ dX1_stepBack_19 (fun w2 H locs ew2 hR => ?_)
    have hf := qnm_t hf ew2
    refine lv_aload_n hx hb dX1_stepBack_22 rfl (lv_at hl 0 rfl) ?_
    refine lv_dup hx hb dX1_stepBack_23 rfl ?_
    refine qget_X1_2 hC hR qk_172 dX1_stepBack_24 ?_
    refine lv_iconst (v := 1) hx hb dX1_stepBack_27 (by decide) ?_
    refine lv_isub hx hb dX1_stepBack_28 ?_
    refine qput_X1_2 hC hR qk_172 ⟨rfl, rfl⟩ dX1_stepBack_29 (fun w3 H locs ew3 hR => ?_)
    have hf := qnm_t hf ew3
    refine lv_aload_n hx hb dX1_stepBack_32 rfl (lv_at hl 0 rfl) ?_
    refine lv_aload_n hx hb dX1_stepBack_33 rfl (lv_at hl 1 rfl) ?_
    obtain ⟨w5, hq4, hf⟩ := qbd_s hf
    refine q_callVv hC hR (mX1_copyNoteTo (qJ hC) hh1 hq4) (by decide) (qsh_229 G ad _) rfl qk_1344 qk_1327 qk_1328 qk_22 qk_1329 qhd_X1_copyNoteTo ⟨Nat.le_of_ble_eq_true rfl, Nat.le_of_ble_eq_true rfl⟩ hl.1 rfl (Nat.le_of_ble_eq_true rfl) dX1_stepBack_34 ⟨Nat.zero_le _, Nat.zero_le _⟩ (fun H locs hR => ?_)
    exact q_vret hC hR hr (qso hf) dX1_stepBack_37
  · have hf := qif_f hf c_1
    refine lv_aload_n hx hb dX1_stepBack_8 rfl (lv_at hl 0 rfl) ?_
    refine qget_X1_1 hC hR qk_171 dX1_stepBack_9 ?_
    refine lv_iconst (v := 1) hx hb dX1_stepBack_12 (by decide) ?_
    refine lv_isub hx hb dX1_stepBack_13 ?_
    refine lv_goto (tgt := 19) hx hb dX1_stepBack_14 (by decide) ?_
    refine qput_X1_1 hC hR qk_171 ⟨rfl, rfl⟩ dX1_stepBack_19 (fun w6 H locs ew6 hR => ?_)
    have hf := qnm_t hf ew6
    refine lv_aload_n hx hb dX1_stepBack_22 rfl (lv_at hl 0 rfl) ?_
    refine lv_dup hx hb dX1_stepBack_23 rfl ?_
    refine qget_X1_2 hC hR qk_172 dX1_stepBack_24 ?_
    refine lv_iconst (v := 1) hx hb dX1_stepBack_27 (by decide) ?_
    refine lv_isub hx hb dX1_stepBack_28 ?_
    refine qput_X1_2 hC hR qk_172 ⟨rfl, rfl⟩ dX1_stepBack_29 (fun w7 H locs ew7 hR => ?_)
    have hf := qnm_t hf ew7
    refine lv_aload_n hx hb dX1_stepBack_32 rfl (lv_at hl 0 rfl) ?_
    refine lv_aload_n hx hb dX1_stepBack_33 rfl (lv_at hl 1 rfl) ?_
    obtain ⟨w9, hq8, hf⟩ := qbd_s hf
    refine q_callVv hC hR (mX1_copyNoteTo (qJ hC) hh1 hq8) (by decide) (qsh_229 G ad _) rfl qk_1344 qk_1327 qk_1328 qk_22 qk_1329 qhd_X1_copyNoteTo ⟨Nat.le_of_ble_eq_true rfl, Nat.le_of_ble_eq_true rfl⟩ hl.1 rfl (Nat.le_of_ble_eq_true rfl) dX1_stepBack_34 ⟨Nat.zero_le _, Nat.zero_le _⟩ (fun H locs hR => ?_)
    exact q_vret hC hR hr (qso hf) dX1_stepBack_37
