-- X0.propAt
def fX0_propAt (w : qMem) (h : Nat) (a1 : Int32) : Option (Nat) :=
  if a1 < 0 then
    some (19 * h + 14)
  else
    if w (19 * h) 2 ≤ a1 then
      some (19 * h + 14)
    else
      if a1 < 12 then
        if qin a1 12 = true then
        some (19 * h + 2 + (a1).toNatClampNeg)
        else none
      else
        some (19 * h + 14)
theorem qhd_X0_propAt : yX0_propAt.cls ≠ "java/lang/invoke/MethodHandle" ∧ yX0_propAt.cls ≠ "java/lang/invoke/VarHandle" ∧ (parseMethodDescriptor yX0_propAt.desc).map (fun d => d.parameters.length) = some 1 := ⟨by decide +kernel, by decide +kernel, by decide +kernel⟩
set_option maxHeartbeats 4000000 in
set_option maxRecDepth 100000 in
theorem mX0_propAt {l : Launch} {D : va_G} {G : Nat → ClassId} {ad : Nat → Nat} (hJ : qInj ad) {w : qMem} {h : Nat} (hh : h < 12) {a1 : Int32} {rF : Nat} (hf : fX0_propAt w h a1 = some rF) : qCMr l D G ad yX0_propAt cX0_propAt 3 (some (.object "QuakeRehearsal$Prop")) 1 0 0 [.ref (ad (19 * h)), .int a1] w rF w := by
  refine q_start RX0 rfl (by decide +kernel) hJ (fun a b h => by simp only [qQI, qQV, qQR, qQD, qQF, h]) (Nat.le_of_ble_eq_true rfl) ?_
  intro p e s m args below meth c0 ls hC hr hR hl
  have hx := hC.1
  have hb := hC.2.1
  have hl : lv_has ls 3 [(0, .ref (ad (19 * h))), (1, .int a1)] := hl
  unfold fX0_propAt at hf
  refine lv_iload_n hx hb dX0_propAt_0 rfl (lv_at hl 1 rfl) ?_
  refine lv_if_lt (tgt := 21) hx hb dX0_propAt_1 (by decide) (fun c_1 => ?_) (fun c_1 => ?_)
  · have hf := qif_t hf c_1
    refine lv_aload_n hx hb dX0_propAt_21 rfl (lv_at hl 0 rfl) ?_
    refine qget_X0_1 hC hR hh qk_112 dX0_propAt_22 ?_
    exact q_aret hC hR hr (qso hf) rfl dX0_propAt_25
  · have hf := qif_f hf c_1
    refine lv_iload_n hx hb dX0_propAt_4 rfl (lv_at hl 1 rfl) ?_
    refine lv_aload_n hx hb dX0_propAt_5 rfl (lv_at hl 0 rfl) ?_
    refine qget_X0_2 hC hR hh qk_113 dX0_propAt_6 ?_
    refine lv_icmp_ge (tgt := 21) hx hb dX0_propAt_9 (by decide) (fun c_2 => ?_) (fun c_2 => ?_)
    · have hf := qif_t hf c_2
      refine lv_aload_n hx hb dX0_propAt_21 rfl (lv_at hl 0 rfl) ?_
      refine qget_X0_1 hC hR hh qk_112 dX0_propAt_22 ?_
      exact q_aret hC hR hr (qso hf) rfl dX0_propAt_25
    · have hf := qif_f hf c_2
      refine lv_iload_n hx hb dX0_propAt_12 rfl (lv_at hl 1 rfl) ?_
      refine lv_aload_n hx hb dX0_propAt_13 rfl (lv_at hl 0 rfl) ?_
      refine qget_X0_0 hC hR hh qk_111 dX0_propAt_14 ?_
      refine q_alen (v := 12) hC hR (by have := hh; omega) (qsh_props G ad _ hh) rfl (by decide) dX0_propAt_17 ?_
      refine lv_icmp_lt (tgt := 26) hx hb dX0_propAt_18 (by decide) (fun c_3 => ?_) (fun c_3 => ?_)
      · have hf := qif_t hf c_3
        refine lv_aload_n hx hb dX0_propAt_26 rfl (lv_at hl 0 rfl) ?_
        refine qget_X0_0 hC hR hh qk_111 dX0_propAt_27 ?_
        refine lv_iload_n hx hb dX0_propAt_30 rfl (lv_at hl 1 rfl) ?_
        obtain ⟨g4, hf⟩ := qgd hf
        refine q_ald hC hR (by have := hh; omega) (qsh_props G ad _ hh) rfl g4 dX0_propAt_31 ?_
        refine lv_astore_n (lv' := [(2, .ref (ad (19 * h + 2 + (a1).toNatClampNeg))), (0, .ref (ad (19 * h))), (1, .int a1)]) hx hb dX0_propAt_32 rfl hl (by decide) rfl (fun ls hl => ?_)
        refine lv_aload_n hx hb dX0_propAt_33 rfl (lv_at hl 0 rfl) ?_
        refine lv_ifnonnull (tgt := 44) hx hb dX0_propAt_34 (by decide) ?_
        refine lv_aload_n hx hb dX0_propAt_44 rfl (lv_at hl 0 rfl) ?_
        exact q_aret hC hR hr (qso hf) rfl dX0_propAt_45
      · have hf := qif_f hf c_3
        refine lv_aload_n hx hb dX0_propAt_21 rfl (lv_at hl 0 rfl) ?_
        refine qget_X0_1 hC hR hh qk_112 dX0_propAt_22 ?_
        exact q_aret hC hR hr (qso hf) rfl dX0_propAt_25
-- X0.plannedAt
def fX0_plannedAt (w : qMem) (h : Nat) (a1 : Int32) : Option (Int32) :=
  if a1 < 0 then
    some (0)
  else
    if (8 : Int32) ≤ a1 then
      some (0)
    else
      if qin a1 8 = true then
      some (w (19 * h + 15) (a1).toNatClampNeg)
      else none
theorem qhd_X0_plannedAt : yX0_plannedAt.cls ≠ "java/lang/invoke/MethodHandle" ∧ yX0_plannedAt.cls ≠ "java/lang/invoke/VarHandle" ∧ (parseMethodDescriptor yX0_plannedAt.desc).map (fun d => d.parameters.length) = some 1 := ⟨by decide +kernel, by decide +kernel, by decide +kernel⟩
set_option maxHeartbeats 4000000 in
set_option maxRecDepth 100000 in
theorem mX0_plannedAt {l : Launch} {D : va_G} {G : Nat → ClassId} {ad : Nat → Nat} (hJ : qInj ad) {w : qMem} {h : Nat} (hh : h < 12) {a1 : Int32} {rF : Int32} (hf : fX0_plannedAt w h a1 = some rF) : qCMi l D G ad yX0_plannedAt cX0_plannedAt 2 (some .int) 1 0 0 [.ref (ad (19 * h)), .int a1] w rF w := by
  refine q_start RX0 rfl (by decide +kernel) hJ (fun a b h => by simp only [qQI, qQV, qQR, qQD, qQF, h]) (Nat.le_of_ble_eq_true rfl) ?_
  intro p e s m args below meth c0 ls hC hr hR hl
  have hx := hC.1
  have hb := hC.2.1
  have hl : lv_has ls 2 [(0, .ref (ad (19 * h))), (1, .int a1)] := hl
  unfold fX0_plannedAt at hf
  refine lv_iload_n hx hb dX0_plannedAt_0 rfl (lv_at hl 1 rfl) ?_
  refine lv_if_lt (tgt := 22) hx hb dX0_plannedAt_1 (by decide) (fun c_1 => ?_) (fun c_1 => ?_)
  · have hf := qif_t hf c_1
    refine lv_iconst (v := 0) hx hb dX0_plannedAt_22 (by decide) ?_
    exact q_iret hC hR hr rfl (qso hf) rfl dX0_plannedAt_23
  · have hf := qif_f hf c_1
    refine lv_iload_n hx hb dX0_plannedAt_4 rfl (lv_at hl 1 rfl) ?_
    refine lv_aload_n hx hb dX0_plannedAt_5 rfl (lv_at hl 0 rfl) ?_
    refine qget_X0_3 hC hR hh qk_115 dX0_plannedAt_6 ?_
    refine q_alen (v := 8) hC hR (by have := hh; omega) (qsh_planned G ad _ hh) rfl (by decide) dX0_plannedAt_9 ?_
    refine lv_icmp_ge (tgt := 22) hx hb dX0_plannedAt_10 (by decide) (fun c_2 => ?_) (fun c_2 => ?_)
    · have hf := qif_t hf c_2
      refine lv_iconst (v := 0) hx hb dX0_plannedAt_22 (by decide) ?_
      exact q_iret hC hR hr rfl (qso hf) rfl dX0_plannedAt_23
    · have hf := qif_f hf c_2
      refine lv_aload_n hx hb dX0_plannedAt_13 rfl (lv_at hl 0 rfl) ?_
      refine qget_X0_3 hC hR hh qk_115 dX0_plannedAt_14 ?_
      refine lv_iload_n hx hb dX0_plannedAt_17 rfl (lv_at hl 1 rfl) ?_
      obtain ⟨g3, hf⟩ := qgd hf
      refine q_ild hC hR (j := (a1).toNatClampNeg) (by have := hh; omega) (qsh_planned G ad _ hh) g3 rfl dX0_plannedAt_18 ?_
      refine lv_goto (tgt := 23) hx hb dX0_plannedAt_19 (by decide) ?_
      exact q_iret hC hR hr rfl (qso hf) rfl dX0_plannedAt_23
-- X0.copyFrom
def fX0_copyFrom_L47 (h : Nat) (h1 : Nat)  : Nat → qMem → Int32 → Option (qMem)
  | 0, _, _ => none
  | n + 1, w, x2 =>
    if (8 : Int32) ≤ x2 then
      qnm (quw w (19 * h) 5 (w (19 * h1) 5)) fun (w5 : qMem) =>
      qnm (quw w5 (19 * h) 6 (w5 (19 * h1) 6)) fun (w6 : qMem) =>
      qnm (quw w6 (19 * h) 7 (w6 (19 * h1) 7)) fun (w7 : qMem) =>
      qnm (quw w7 (19 * h) 8 (w7 (19 * h1) 8)) fun (w8 : qMem) =>
      qnm (quw w8 (19 * h) 9 (w8 (19 * h1) 9)) fun (w9 : qMem) =>
      some w9
    else
      if qin x2 8 = true then
      if qin x2 8 = true then
      qnm (quw w (19 * h + 15) (x2).toNatClampNeg (w (19 * h1 + 15) (x2).toNatClampNeg)) fun (w12 : qMem) =>
      qnm (x2 + 1) fun (x13 : Int32) =>
      fX0_copyFrom_L47 h h1 n w12 x13
      else none
      else none
set_option maxHeartbeats 4000000 in
set_option maxRecDepth 100000 in
theorem mX0_copyFrom_L47 {p : Program} {l : Launch} {e : Env} {s : State} {m : MethodId} {args : Array Value} {below : List Frame} {meth : Method} {c0 : Code} {D : va_G} {G : Nat → ClassId} {ad : Nat → Nat} {h : Nat} {h1 : Nat} (hh : h < 12) (hh1 : h1 < 12) {wF : qMem}  (hC : qCx p c0 cX0_copyFrom 3 s m args meth RX0 D G ad) (hr : meth.sig.returnType = none)  : ∀ (n : Nat), ∀ (w : qMem) (x2 : Int32) (H : Heap) (locs : List Loc) (ls : Array Slot), fX0_copyFrom_L47 h h1 n w x2 = some wF → qRp D G ad s w H locs → lv_has ls 3 [(0, .ref (ad (19 * h))), (1, .ref (ad (19 * h1))), (2, .int x2)] → W p l e (qrm 2 0 0) s m args below meth c0 H locs 0 0 (MQ below (qQV D G ad s wF) args s 0 0 (qAdr ad s.heap.size)) (F0 m 47 ls []) := by
  have hx := hC.1
  have hb := hC.2.1
  intro n
  induction n with
  | zero => intro w x2 H locs ls hf; exact nomatch (show (none : Option (qMem)) = some _ from hf)
  | succ n ih =>
    intro w x2 H locs ls hf hR hl
    rw [fX0_copyFrom_L47] at hf
    refine lv_iload_n hx hb dX0_copyFrom_47 rfl (lv_at hl 2 rfl) ?_
    refine lv_bipush (v := 8) hx hb dX0_copyFrom_48 (by decide) ?_
    refine lv_icmp_ge (tgt := 71) hx hb dX0_copyFrom_50 (by decide) (fun c_4 => ?_) (fun c_4 => ?_)
    · have hf := qif_t hf c_4
      refine lv_aload_n hx hb dX0_copyFrom_71 rfl (lv_at hl 0 rfl) ?_
      refine lv_aload_n hx hb dX0_copyFrom_72 rfl (lv_at hl 1 rfl) ?_
      refine qget_X0_5 hC hR hh1 qk_119 dX0_copyFrom_73 ?_
      refine qput_X0_5 hC hR hh qk_119 ⟨rfl, rfl⟩ dX0_copyFrom_76 (fun w5 H locs ew5 hR => ?_)
      have hf := qnm_t hf ew5
      refine lv_aload_n hx hb dX0_copyFrom_79 rfl (lv_at hl 0 rfl) ?_
      refine lv_aload_n hx hb dX0_copyFrom_80 rfl (lv_at hl 1 rfl) ?_
      refine qget_X0_6 hC hR hh1 qk_121 dX0_copyFrom_81 ?_
      refine qput_X0_6 hC hR hh qk_121 ⟨rfl, rfl⟩ dX0_copyFrom_84 (fun w6 H locs ew6 hR => ?_)
      have hf := qnm_t hf ew6
      refine lv_aload_n hx hb dX0_copyFrom_87 rfl (lv_at hl 0 rfl) ?_
      refine lv_aload_n hx hb dX0_copyFrom_88 rfl (lv_at hl 1 rfl) ?_
      refine qget_X0_7 hC hR hh1 qk_123 dX0_copyFrom_89 ?_
      refine qput_X0_7 hC hR hh qk_123 ⟨rfl, rfl⟩ dX0_copyFrom_92 (fun w7 H locs ew7 hR => ?_)
      have hf := qnm_t hf ew7
      refine lv_aload_n hx hb dX0_copyFrom_95 rfl (lv_at hl 0 rfl) ?_
      refine lv_aload_n hx hb dX0_copyFrom_96 rfl (lv_at hl 1 rfl) ?_
      refine qget_X0_8 hC hR hh1 qk_125 dX0_copyFrom_97 ?_
      refine qput_X0_8 hC hR hh qk_125 ⟨rfl, rfl⟩ dX0_copyFrom_100 (fun w8 H locs ew8 hR => ?_)
      have hf := qnm_t hf ew8
      refine lv_aload_n hx hb dX0_copyFrom_103 rfl (lv_at hl 0 rfl) ?_
      refine lv_aload_n hx hb dX0_copyFrom_104 rfl (lv_at hl 1 rfl) ?_
      refine qget_X0_9 hC hR hh1 qk_127 dX0_copyFrom_105 ?_
      refine qput_X0_9 hC hR hh qk_127 ⟨rfl, rfl⟩ dX0_copyFrom_108 (fun w9 H locs ew9 hR => ?_)
      have hf := qnm_t hf ew9
      exact q_vret hC hR hr (qso hf) dX0_copyFrom_111
    · have hf := qif_f hf c_4
      refine lv_aload_n hx hb dX0_copyFrom_53 rfl (lv_at hl 0 rfl) ?_
      refine qget_X0_3 hC hR hh qk_115 dX0_copyFrom_54 ?_
      refine lv_iload_n hx hb dX0_copyFrom_57 rfl (lv_at hl 2 rfl) ?_
      refine lv_aload_n hx hb dX0_copyFrom_58 rfl (lv_at hl 1 rfl) ?_
      refine qget_X0_3 hC hR hh1 qk_115 dX0_copyFrom_59 ?_
      refine lv_iload_n hx hb dX0_copyFrom_62 rfl (lv_at hl 2 rfl) ?_
      obtain ⟨g10, hf⟩ := qgd hf
      refine q_ild hC hR (j := (x2).toNatClampNeg) (by have := hh1; omega) (qsh_planned G ad _ hh1) g10 rfl dX0_copyFrom_63 ?_
      obtain ⟨g11, hf⟩ := qgd hf
      refine q_ist hC hR (j := (x2).toNatClampNeg) (by have := hh; omega) (fun f => qsh_planned G ad f hh) g11 rfl dX0_copyFrom_64 (fun w12 H locs ew12 hR => ?_)
      have hf := qnm_t hf ew12
      obtain ⟨x13, ex13⟩ : ∃ y : Int32, y = x2 + 1 := ⟨_, rfl⟩
      have hf := qnm_t hf ex13
      refine lv_iinc (v := x13) (lv' := [(2, .int x13), (0, .ref (ad (19 * h))), (1, .ref (ad (19 * h1)))]) hx hb dX0_copyFrom_65 hl (k := 2) rfl (by rw [ex13]; rfl) (by decide) rfl (fun ls hl => ?_)
      refine lv_goto (tgt := 47) hx hb dX0_copyFrom_68 (by decide) ?_
      exact ih _ _ _ _ _ hf hR (lv_sub hl [1, 2, 0] rfl)
def fX0_copyFrom_L10 (h : Nat) (h1 : Nat)  : Nat → qMem → Int32 → Option (qMem)
  | 0, _, _ => none
  | n + 1, w, x2 =>
    if w (19 * h) 2 ≤ x2 then
      qnm (quw w (19 * h) 4 (w (19 * h1) 4)) fun (w3 : qMem) =>
      fX0_copyFrom_L47 h h1 100 w3 0
    else
      qbd (fX0_propAt w h x2) fun (r15 : Nat) =>
      if qisPb r15 = true then
      qbd (fX0_propAt w h1 x2) fun (r18 : Nat) =>
      if qisPb r18 = true then
      qbd (fX3_copyFrom w r15 r18) fun (w21 : qMem) =>
      qnm (x2 + 1) fun (x22 : Int32) =>
      fX0_copyFrom_L10 h h1 n w21 x22
      else none
      else none
set_option maxHeartbeats 4000000 in
set_option maxRecDepth 100000 in
theorem mX0_copyFrom_L10 {p : Program} {l : Launch} {e : Env} {s : State} {m : MethodId} {args : Array Value} {below : List Frame} {meth : Method} {c0 : Code} {D : va_G} {G : Nat → ClassId} {ad : Nat → Nat} {h : Nat} {h1 : Nat} (hh : h < 12) (hh1 : h1 < 12) {wF : qMem}  (hC : qCx p c0 cX0_copyFrom 3 s m args meth RX0 D G ad) (hr : meth.sig.returnType = none)  : ∀ (n : Nat), ∀ (w : qMem) (x2 : Int32) (H : Heap) (locs : List Loc) (ls : Array Slot), fX0_copyFrom_L10 h h1 n w x2 = some wF → qRp D G ad s w H locs → lv_has ls 3 [(0, .ref (ad (19 * h))), (1, .ref (ad (19 * h1))), (2, .int x2)] → W p l e (qrm 2 0 0) s m args below meth c0 H locs 0 0 (MQ below (qQV D G ad s wF) args s 0 0 (qAdr ad s.heap.size)) (F0 m 10 ls []) := by
  have hx := hC.1
  have hb := hC.2.1
  intro n
  induction n with
  | zero => intro w x2 H locs ls hf; exact nomatch (show (none : Option (qMem)) = some _ from hf)
  | succ n ih =>
    intro w x2 H locs ls hf hR hl
    rw [fX0_copyFrom_L10] at hf
    refine lv_iload_n hx hb dX0_copyFrom_10 rfl (lv_at hl 2 rfl) ?_
    refine lv_aload_n hx hb dX0_copyFrom_11 rfl (lv_at hl 0 rfl) ?_
    refine qget_X0_2 hC hR hh qk_113 dX0_copyFrom_12 ?_
    refine lv_icmp_ge (tgt := 37) hx hb dX0_copyFrom_15 (by decide) (fun c_2 => ?_) (fun c_2 => ?_)
    · have hf := qif_t hf c_2
      refine lv_aload_n hx hb dX0_copyFrom_37 rfl (lv_at hl 0 rfl) ?_
      refine lv_aload_n hx hb dX0_copyFrom_38 rfl (lv_at hl 1 rfl) ?_
      refine qget_X0_4 hC hR hh1 qk_116 dX0_copyFrom_39 ?_
      refine qput_X0_4 hC hR hh qk_116 ⟨rfl, rfl⟩ dX0_copyFrom_42 (fun w3 H locs ew3 hR => ?_)
      have hf := qnm_t hf ew3
      refine lv_iconst (v := 0) hx hb dX0_copyFrom_45 (by decide) ?_
      refine lv_istore_n (lv' := [(2, .int 0), (0, .ref (ad (19 * h))), (1, .ref (ad (19 * h1)))]) hx hb dX0_copyFrom_46 rfl hl (by decide) rfl (fun ls hl => ?_)
      exact mX0_copyFrom_L47 hh hh1 hC hr 100 _ _ _ _ _ hf hR (lv_sub hl [1, 2, 0] rfl)
    · have hf := qif_f hf c_2
      refine lv_aload_n hx hb dX0_copyFrom_18 rfl (lv_at hl 0 rfl) ?_
      refine lv_iload_n hx hb dX0_copyFrom_19 rfl (lv_at hl 2 rfl) ?_
      obtain ⟨r15, hq14, hf⟩ := qbd_s hf
      obtain ⟨g16, hf⟩ := qgd hf
      refine q_callVr hC hR (mX0_propAt (qJ hC) hh hq14) (by have := hh; omega) (qsh_hall G ad _ hh) rfl qk_289 qk_290 qk_291 qk_20 qk_292 qhd_X0_propAt ⟨Nat.le_of_ble_eq_true rfl, Nat.le_of_ble_eq_true rfl⟩ hl.1 rfl (Nat.le_of_ble_eq_true rfl) dX0_copyFrom_20 ⟨Nat.zero_le _, Nat.zero_le _⟩ (fun H locs hR => ?_)
      refine lv_aload_n hx hb dX0_copyFrom_23 rfl (lv_at hl 1 rfl) ?_
      refine lv_iload_n hx hb dX0_copyFrom_24 rfl (lv_at hl 2 rfl) ?_
      obtain ⟨r18, hq17, hf⟩ := qbd_s hf
      obtain ⟨g19, hf⟩ := qgd hf
      refine q_callVr hC hR (mX0_propAt (qJ hC) hh1 hq17) (by have := hh1; omega) (qsh_hall G ad _ hh1) rfl qk_289 qk_290 qk_291 qk_20 qk_292 qhd_X0_propAt ⟨Nat.le_of_ble_eq_true rfl, Nat.le_of_ble_eq_true rfl⟩ hl.1 rfl (Nat.le_of_ble_eq_true rfl) dX0_copyFrom_25 ⟨Nat.zero_le _, Nat.zero_le _⟩ (fun H locs hR => ?_)
      obtain ⟨w21, hq20, hf⟩ := qbd_s hf
      refine q_callVv hC hR (mX3_copyFrom (qJ hC) (qisPb_ok g16) (qisPb_ok g19) hq20) (qisP_lt (qisPb_ok g16)) (qsh_prop G ad _ (qisPb_ok g16)) rfl qk_293 qk_294 qk_295 qk_21 qk_296 qhd_X3_copyFrom ⟨Nat.le_of_ble_eq_true rfl, Nat.le_of_ble_eq_true rfl⟩ hl.1 rfl (Nat.le_of_ble_eq_true rfl) dX0_copyFrom_28 ⟨Nat.zero_le _, Nat.zero_le _⟩ (fun H locs hR => ?_)
      obtain ⟨x22, ex22⟩ : ∃ y : Int32, y = x2 + 1 := ⟨_, rfl⟩
      have hf := qnm_t hf ex22
      refine lv_iinc (v := x22) (lv' := [(2, .int x22), (0, .ref (ad (19 * h))), (1, .ref (ad (19 * h1)))]) hx hb dX0_copyFrom_31 hl (k := 2) rfl (by rw [ex22]; rfl) (by decide) rfl (fun ls hl => ?_)
      refine lv_goto (tgt := 10) hx hb dX0_copyFrom_34 (by decide) ?_
      exact ih _ _ _ _ _ hf hR (lv_sub hl [1, 2, 0] rfl)
def fX0_copyFrom (w : qMem) (h : Nat) (h1 : Nat)  : Option (qMem) :=
  qnm (quw w (19 * h) 2 (w (19 * h1) 2)) fun (w1 : qMem) =>
  fX0_copyFrom_L10 h h1 100 w1 0
theorem qhd_X0_copyFrom : yX0_copyFrom.cls ≠ "java/lang/invoke/MethodHandle" ∧ yX0_copyFrom.cls ≠ "java/lang/invoke/VarHandle" ∧ (parseMethodDescriptor yX0_copyFrom.desc).map (fun d => d.parameters.length) = some 1 := ⟨by decide +kernel, by decide +kernel, by decide +kernel⟩
set_option maxHeartbeats 4000000 in
set_option maxRecDepth 100000 in
theorem mX0_copyFrom {l : Launch} {D : va_G} {G : Nat → ClassId} {ad : Nat → Nat} (hJ : qInj ad) {w : qMem} {h : Nat} {h1 : Nat} (hh : h < 12) (hh1 : h1 < 12)  {wF : qMem} (hf : fX0_copyFrom w h h1 = some wF) : qCMv l D G ad yX0_copyFrom cX0_copyFrom 3 (none) 2 0 0 [.ref (ad (19 * h)), .ref (ad (19 * h1))] w wF := by
  refine q_start RX0 rfl (by decide +kernel) hJ (fun a b h => by simp only [qQI, qQV, qQR, qQD, qQF, h]) (Nat.le_of_ble_eq_true rfl) ?_
  intro p e s m args below meth c0 ls hC hr hR hl
  have hx := hC.1
  have hb := hC.2.1
  have hl : lv_has ls 3 [(0, .ref (ad (19 * h))), (1, .ref (ad (19 * h1)))] := hl
  unfold fX0_copyFrom at hf
  refine lv_aload_n hx hb dX0_copyFrom_0 rfl (lv_at hl 0 rfl) ?_
  refine lv_aload_n hx hb dX0_copyFrom_1 rfl (lv_at hl 1 rfl) ?_
  refine qget_X0_2 hC hR hh1 qk_113 dX0_copyFrom_2 ?_
  refine qput_X0_2 hC hR hh qk_113 ⟨rfl, rfl⟩ dX0_copyFrom_5 (fun w1 H locs ew1 hR => ?_)
  have hf := qnm_t hf ew1
  refine lv_iconst (v := 0) hx hb dX0_copyFrom_8 (by decide) ?_
  refine lv_istore_n (lv' := [(2, .int 0), (0, .ref (ad (19 * h))), (1, .ref (ad (19 * h1)))]) hx hb dX0_copyFrom_9 rfl hl (by decide) rfl (fun ls hl => ?_)
  exact mX0_copyFrom_L10 hh hh1 hC hr 100 _ _ _ _ _ hf hR (lv_sub hl [1, 2, 0] rfl)
-- X0.placeProp
def fX0_placeProp (w : qMem) (h : Nat) (a1 : Int32) (a2 : Int32) (a3 : Int32) : Option (Int32 × qMem) :=
  qnm (w (19 * h) 2) fun (x1 : Int32) =>
  qnm (quw w (19 * h) 2 ((w (19 * h) 2) + 1)) fun (w2 : qMem) =>
  qbd (fX0_propAt w2 h x1) fun (r4 : Nat) =>
  if qisPb r4 = true then
  qbd (fX3_begin w2 r4 a1 a2 a3) fun (w7 : qMem) =>
  some (x1, w7)
  else none
theorem qhd_X0_placeProp : yX0_placeProp.cls ≠ "java/lang/invoke/MethodHandle" ∧ yX0_placeProp.cls ≠ "java/lang/invoke/VarHandle" ∧ (parseMethodDescriptor yX0_placeProp.desc).map (fun d => d.parameters.length) = some 3 := ⟨by decide +kernel, by decide +kernel, by decide +kernel⟩
set_option maxHeartbeats 4000000 in
set_option maxRecDepth 100000 in
theorem mX0_placeProp {l : Launch} {D : va_G} {G : Nat → ClassId} {ad : Nat → Nat} (hJ : qInj ad) {w : qMem} {h : Nat} (hh : h < 12) {a1 : Int32} {a2 : Int32} {a3 : Int32} {rF : Int32} {wF : qMem} (hf : fX0_placeProp w h a1 a2 a3 = some (rF, wF)) : qCMi l D G ad yX0_placeProp cX0_placeProp 5 (some .int) 2 0 0 [.ref (ad (19 * h)), .int a1, .int a2, .int a3] w rF wF := by
  refine q_start RX0 rfl (by decide +kernel) hJ (fun a b h => by simp only [qQI, qQV, qQR, qQD, qQF, h]) (Nat.le_of_ble_eq_true rfl) ?_
  intro p e s m args below meth c0 ls hC hr hR hl
  have hx := hC.1
  have hb := hC.2.1
  have hl : lv_has ls 5 [(0, .ref (ad (19 * h))), (1, .int a1), (2, .int a2), (3, .int a3)] := hl
  unfold fX0_placeProp at hf
  refine lv_aload_n hx hb dX0_placeProp_0 rfl (lv_at hl 0 rfl) ?_
  refine qget_X0_2 hC hR hh qk_113 dX0_placeProp_1 ?_
  refine lv_topi (fun x1 ex1 => ?_)
  have hf := qnm_t hf ex1
  refine lv_istore (lv' := [(4, .int x1), (0, .ref (ad (19 * h))), (1, .int a1), (2, .int a2), (3, .int a3)]) hx hb dX0_placeProp_4 hl (by decide) rfl (fun ls hl => ?_)
  refine lv_aload_n hx hb dX0_placeProp_6 rfl (lv_at hl 1 rfl) ?_
  refine lv_dup hx hb dX0_placeProp_7 rfl ?_
  refine qget_X0_2 hC hR hh qk_113 dX0_placeProp_8 ?_
  refine lv_iconst (v := 1) hx hb dX0_placeProp_11 (by decide) ?_
  refine lv_iadd hx hb dX0_placeProp_12 ?_
  refine qput_X0_2 hC hR hh qk_113 ⟨rfl, rfl⟩ dX0_placeProp_13 (fun w2 H locs ew2 hR => ?_)
  have hf := qnm_t hf ew2
  refine lv_aload_n hx hb dX0_placeProp_16 rfl (lv_at hl 1 rfl) ?_
  refine lv_iload hx hb dX0_placeProp_17 (lv_at hl 0 rfl) ?_
  obtain ⟨r4, hq3, hf⟩ := qbd_s hf
  obtain ⟨g5, hf⟩ := qgd hf
  refine q_callVr hC hR (mX0_propAt (qJ hC) hh hq3) (by have := hh; omega) (qsh_hall G ad _ hh) rfl qk_289 qk_290 qk_291 qk_20 qk_292 qhd_X0_propAt ⟨Nat.le_of_ble_eq_true rfl, Nat.le_of_ble_eq_true rfl⟩ hl.1 rfl (Nat.le_of_ble_eq_true rfl) dX0_placeProp_19 ⟨Nat.zero_le _, Nat.zero_le _⟩ (fun H locs hR => ?_)
  refine lv_iload_n hx hb dX0_placeProp_22 rfl (lv_at hl 2 rfl) ?_
  refine lv_iload_n hx hb dX0_placeProp_23 rfl (lv_at hl 3 rfl) ?_
  refine lv_iload_n hx hb dX0_placeProp_24 rfl (lv_at hl 4 rfl) ?_
  obtain ⟨w7, hq6, hf⟩ := qbd_s hf
  refine q_callVv hC hR (mX3_begin (qJ hC) (qisPb_ok g5) hq6) (qisP_lt (qisPb_ok g5)) (qsh_prop G ad _ (qisPb_ok g5)) rfl qk_320 qk_321 qk_322 qk_21 qk_323 qhd_X3_begin ⟨Nat.le_of_ble_eq_true rfl, Nat.le_of_ble_eq_true rfl⟩ hl.1 rfl (Nat.le_of_ble_eq_true rfl) dX0_placeProp_25 ⟨Nat.zero_le _, Nat.zero_le _⟩ (fun H locs hR => ?_)
  refine lv_iload hx hb dX0_placeProp_28 (lv_at hl 0 rfl) ?_
  exact q_iret hC hR hr rfl (qso2 hf).1 (qso2 hf).2 dX0_placeProp_30
-- X0.removeProp
def fX0_removeProp_L2 (h : Nat)  : Nat → qMem → Int32 → Option (Int32 × qMem)
  | 0, _, _ => none
  | n + 1, w, x2 =>
    if (w (19 * h) 2) - 1 ≤ x2 then
      qnm (quw w (19 * h) 2 ((w (19 * h) 2) - 1)) fun (w2 : qMem) =>
      some (w2 (19 * h) 2, w2)
    else
      qbd (fX0_propAt w h x2) fun (r4 : Nat) =>
      if qisPb r4 = true then
      qbd (fX0_propAt w h (x2 + 1)) fun (r7 : Nat) =>
      if qisPb r7 = true then
      qbd (fX3_copyFrom w r4 r7) fun (w10 : qMem) =>
      qnm (x2 + 1) fun (x11 : Int32) =>
      fX0_removeProp_L2 h n w10 x11
      else none
      else none
set_option maxHeartbeats 4000000 in
set_option maxRecDepth 100000 in
theorem mX0_removeProp_L2 {p : Program} {l : Launch} {e : Env} {s : State} {m : MethodId} {args : Array Value} {below : List Frame} {meth : Method} {c0 : Code} {D : va_G} {G : Nat → ClassId} {ad : Nat → Nat} {h : Nat} (hh : h < 12) {rF : Int32} {wF : qMem}  (hC : qCx p c0 cX0_removeProp 3 s m args meth RX0 D G ad) (hr : meth.sig.returnType = some .int)  : ∀ (n : Nat), ∀ (w : qMem) (x2 : Int32) (H : Heap) (locs : List Loc) (ls : Array Slot), fX0_removeProp_L2 h n w x2 = some (rF, wF) → qRp D G ad s w H locs → lv_has ls 3 [(0, .ref (ad (19 * h))), (2, .int x2)] → W p l e (qrm 2 0 0) s m args below meth c0 H locs 0 0 (MQ below (qQI D G ad s wF rF) args s 0 0 (qAdr ad s.heap.size)) (F0 m 2 ls []) := by
  have hx := hC.1
  have hb := hC.2.1
  intro n
  induction n with
  | zero => intro w x2 H locs ls hf; exact nomatch (show (none : Option (Int32 × qMem)) = some _ from hf)
  | succ n ih =>
    intro w x2 H locs ls hf hR hl
    rw [fX0_removeProp_L2] at hf
    refine lv_iload_n hx hb dX0_removeProp_2 rfl (lv_at hl 1 rfl) ?_
    refine lv_aload_n hx hb dX0_removeProp_3 rfl (lv_at hl 0 rfl) ?_
    refine qget_X0_2 hC hR hh qk_113 dX0_removeProp_4 ?_
    refine lv_iconst (v := 1) hx hb dX0_removeProp_7 (by decide) ?_
    refine lv_isub hx hb dX0_removeProp_8 ?_
    refine lv_icmp_ge (tgt := 33) hx hb dX0_removeProp_9 (by decide) (fun c_1 => ?_) (fun c_1 => ?_)
    · have hf := qif_t hf c_1
      refine lv_aload_n hx hb dX0_removeProp_33 rfl (lv_at hl 0 rfl) ?_
      refine lv_dup hx hb dX0_removeProp_34 rfl ?_
      refine qget_X0_2 hC hR hh qk_113 dX0_removeProp_35 ?_
      refine lv_iconst (v := 1) hx hb dX0_removeProp_38 (by decide) ?_
      refine lv_isub hx hb dX0_removeProp_39 ?_
      refine qput_X0_2 hC hR hh qk_113 ⟨rfl, rfl⟩ dX0_removeProp_40 (fun w2 H locs ew2 hR => ?_)
      have hf := qnm_t hf ew2
      refine lv_aload_n hx hb dX0_removeProp_43 rfl (lv_at hl 0 rfl) ?_
      refine qget_X0_2 hC hR hh qk_113 dX0_removeProp_44 ?_
      exact q_iret hC hR hr rfl (qso2 hf).1 (qso2 hf).2 dX0_removeProp_47
    · have hf := qif_f hf c_1
      refine lv_aload_n hx hb dX0_removeProp_12 rfl (lv_at hl 0 rfl) ?_
      refine lv_iload_n hx hb dX0_removeProp_13 rfl (lv_at hl 1 rfl) ?_
      obtain ⟨r4, hq3, hf⟩ := qbd_s hf
      obtain ⟨g5, hf⟩ := qgd hf
      refine q_callVr hC hR (mX0_propAt (qJ hC) hh hq3) (by have := hh; omega) (qsh_hall G ad _ hh) rfl qk_289 qk_290 qk_291 qk_20 qk_292 qhd_X0_propAt ⟨Nat.le_of_ble_eq_true rfl, Nat.le_of_ble_eq_true rfl⟩ hl.1 rfl (Nat.le_of_ble_eq_true rfl) dX0_removeProp_14 ⟨Nat.zero_le _, Nat.zero_le _⟩ (fun H locs hR => ?_)
      refine lv_aload_n hx hb dX0_removeProp_17 rfl (lv_at hl 0 rfl) ?_
      refine lv_iload_n hx hb dX0_removeProp_18 rfl (lv_at hl 1 rfl) ?_
      refine lv_iconst (v := 1) hx hb dX0_removeProp_19 (by decide) ?_
      refine lv_iadd hx hb dX0_removeProp_20 ?_
      obtain ⟨r7, hq6, hf⟩ := qbd_s hf
      obtain ⟨g8, hf⟩ := qgd hf
      refine q_callVr hC hR (mX0_propAt (qJ hC) hh hq6) (by have := hh; omega) (qsh_hall G ad _ hh) rfl qk_289 qk_290 qk_291 qk_20 qk_292 qhd_X0_propAt ⟨Nat.le_of_ble_eq_true rfl, Nat.le_of_ble_eq_true rfl⟩ hl.1 rfl (Nat.le_of_ble_eq_true rfl) dX0_removeProp_21 ⟨Nat.zero_le _, Nat.zero_le _⟩ (fun H locs hR => ?_)
      obtain ⟨w10, hq9, hf⟩ := qbd_s hf
      refine q_callVv hC hR (mX3_copyFrom (qJ hC) (qisPb_ok g5) (qisPb_ok g8) hq9) (qisP_lt (qisPb_ok g5)) (qsh_prop G ad _ (qisPb_ok g5)) rfl qk_293 qk_294 qk_295 qk_21 qk_296 qhd_X3_copyFrom ⟨Nat.le_of_ble_eq_true rfl, Nat.le_of_ble_eq_true rfl⟩ hl.1 rfl (Nat.le_of_ble_eq_true rfl) dX0_removeProp_24 ⟨Nat.zero_le _, Nat.zero_le _⟩ (fun H locs hR => ?_)
      obtain ⟨x11, ex11⟩ : ∃ y : Int32, y = x2 + 1 := ⟨_, rfl⟩
      have hf := qnm_t hf ex11
      refine lv_iinc (v := x11) (lv' := [(2, .int x11), (0, .ref (ad (19 * h)))]) hx hb dX0_removeProp_27 hl (k := 1) rfl (by rw [ex11]; rfl) (by decide) rfl (fun ls hl => ?_)
      refine lv_goto (tgt := 2) hx hb dX0_removeProp_30 (by decide) ?_
      exact ih _ _ _ _ _ hf hR (lv_sub hl [1, 0] rfl)
def fX0_removeProp (w : qMem) (h : Nat) (a1 : Int32) : Option (Int32 × qMem) :=
  fX0_removeProp_L2 h 100 w a1
theorem qhd_X0_removeProp : yX0_removeProp.cls ≠ "java/lang/invoke/MethodHandle" ∧ yX0_removeProp.cls ≠ "java/lang/invoke/VarHandle" ∧ (parseMethodDescriptor yX0_removeProp.desc).map (fun d => d.parameters.length) = some 1 := ⟨by decide +kernel, by decide +kernel, by decide +kernel⟩
set_option maxHeartbeats 4000000 in
set_option maxRecDepth 100000 in
theorem mX0_removeProp {l : Launch} {D : va_G} {G : Nat → ClassId} {ad : Nat → Nat} (hJ : qInj ad) {w : qMem} {h : Nat} (hh : h < 12) {a1 : Int32} {rF : Int32} {wF : qMem} (hf : fX0_removeProp w h a1 = some (rF, wF)) : qCMi l D G ad yX0_removeProp cX0_removeProp 3 (some .int) 2 0 0 [.ref (ad (19 * h)), .int a1] w rF wF := by
  refine q_start RX0 rfl (by decide +kernel) hJ (fun a b h => by simp only [qQI, qQV, qQR, qQD, qQF, h]) (Nat.le_of_ble_eq_true rfl) ?_
  intro p e s m args below meth c0 ls hC hr hR hl
  have hx := hC.1
  have hb := hC.2.1
  have hl : lv_has ls 3 [(0, .ref (ad (19 * h))), (1, .int a1)] := hl
  unfold fX0_removeProp at hf
  refine lv_iload_n hx hb dX0_removeProp_0 rfl (lv_at hl 1 rfl) ?_
  refine lv_istore_n (lv' := [(2, .int a1), (0, .ref (ad (19 * h))), (1, .int a1)]) hx hb dX0_removeProp_1 rfl hl (by decide) rfl (fun ls hl => ?_)
  exact mX0_removeProp_L2 hh hC hr 100 _ _ _ _ _ hf hR (lv_sub hl [1, 0] rfl)
-- X0.plan
def fX0_plan (w : qMem) (h : Nat) (a1 : Int32) : Option (Int32 × qMem) :=
  if w (19 * h) 4 < 0 then
    some (w (19 * h) 4, w)
  else
    if (8 : Int32) ≤ w (19 * h) 4 then
      some (w (19 * h) 4, w)
    else
      if qin (w (19 * h) 4) 8 = true then
      qnm (quw w (19 * h + 15) (w (19 * h) 4).toNatClampNeg a1) fun (w4 : qMem) =>
      qnm (quw w4 (19 * h) 4 ((w4 (19 * h) 4) + 1)) fun (w5 : qMem) =>
      some (w5 (19 * h) 4, w5)
      else none
theorem qhd_X0_plan : yX0_plan.cls ≠ "java/lang/invoke/MethodHandle" ∧ yX0_plan.cls ≠ "java/lang/invoke/VarHandle" ∧ (parseMethodDescriptor yX0_plan.desc).map (fun d => d.parameters.length) = some 1 := ⟨by decide +kernel, by decide +kernel, by decide +kernel⟩
set_option maxHeartbeats 4000000 in
set_option maxRecDepth 100000 in
theorem mX0_plan {l : Launch} {D : va_G} {G : Nat → ClassId} {ad : Nat → Nat} (hJ : qInj ad) {w : qMem} {h : Nat} (hh : h < 12) {a1 : Int32} {rF : Int32} {wF : qMem} (hf : fX0_plan w h a1 = some (rF, wF)) : qCMi l D G ad yX0_plan cX0_plan 2 (some .int) 1 0 0 [.ref (ad (19 * h)), .int a1] w rF wF := by
  refine q_start RX0 rfl (by decide +kernel) hJ (fun a b h => by simp only [qQI, qQV, qQR, qQD, qQF, h]) (Nat.le_of_ble_eq_true rfl) ?_
  intro p e s m args below meth c0 ls hC hr hR hl
  have hx := hC.1
  have hb := hC.2.1
  have hl : lv_has ls 2 [(0, .ref (ad (19 * h))), (1, .int a1)] := hl
  unfold fX0_plan at hf
  refine lv_aload_n hx hb dX0_plan_0 rfl (lv_at hl 0 rfl) ?_
  refine qget_X0_4 hC hR hh qk_116 dX0_plan_1 ?_
  refine lv_if_lt (tgt := 39) hx hb dX0_plan_4 (by decide) (fun c_1 => ?_) (fun c_1 => ?_)
  · have hf := qif_t hf c_1
    refine lv_aload_n hx hb dX0_plan_39 rfl (lv_at hl 0 rfl) ?_
    refine qget_X0_4 hC hR hh qk_116 dX0_plan_40 ?_
    exact q_iret hC hR hr rfl (qso2 hf).1 (qso2 hf).2 dX0_plan_43
  · have hf := qif_f hf c_1
    refine lv_aload_n hx hb dX0_plan_7 rfl (lv_at hl 0 rfl) ?_
    refine qget_X0_4 hC hR hh qk_116 dX0_plan_8 ?_
    refine lv_aload_n hx hb dX0_plan_11 rfl (lv_at hl 0 rfl) ?_
    refine qget_X0_3 hC hR hh qk_115 dX0_plan_12 ?_
    refine q_alen (v := 8) hC hR (by have := hh; omega) (qsh_planned G ad _ hh) rfl (by decide) dX0_plan_15 ?_
    refine lv_icmp_ge (tgt := 39) hx hb dX0_plan_16 (by decide) (fun c_2 => ?_) (fun c_2 => ?_)
    · have hf := qif_t hf c_2
      refine lv_aload_n hx hb dX0_plan_39 rfl (lv_at hl 0 rfl) ?_
      refine qget_X0_4 hC hR hh qk_116 dX0_plan_40 ?_
      exact q_iret hC hR hr rfl (qso2 hf).1 (qso2 hf).2 dX0_plan_43
    · have hf := qif_f hf c_2
      refine lv_aload_n hx hb dX0_plan_19 rfl (lv_at hl 0 rfl) ?_
      refine qget_X0_3 hC hR hh qk_115 dX0_plan_20 ?_
      refine lv_aload_n hx hb dX0_plan_23 rfl (lv_at hl 0 rfl) ?_
      refine qget_X0_4 hC hR hh qk_116 dX0_plan_24 ?_
      refine lv_iload_n hx hb dX0_plan_27 rfl (lv_at hl 1 rfl) ?_
      obtain ⟨g3, hf⟩ := qgd hf
      refine q_ist hC hR (j := (w (19 * h) 4).toNatClampNeg) (by have := hh; omega) (fun f => qsh_planned G ad f hh) g3 rfl dX0_plan_28 (fun w4 H locs ew4 hR => ?_)
      have hf := qnm_t hf ew4
      refine lv_aload_n hx hb dX0_plan_29 rfl (lv_at hl 0 rfl) ?_
      refine lv_dup hx hb dX0_plan_30 rfl ?_
      refine qget_X0_4 hC hR hh qk_116 dX0_plan_31 ?_
      refine lv_iconst (v := 1) hx hb dX0_plan_34 (by decide) ?_
      refine lv_iadd hx hb dX0_plan_35 ?_
      refine qput_X0_4 hC hR hh qk_116 ⟨rfl, rfl⟩ dX0_plan_36 (fun w5 H locs ew5 hR => ?_)
      have hf := qnm_t hf ew5
      refine lv_aload_n hx hb dX0_plan_39 rfl (lv_at hl 0 rfl) ?_
      refine qget_X0_4 hC hR hh qk_116 dX0_plan_40 ?_
      exact q_iret hC hR hr rfl (qso2 hf).1 (qso2 hf).2 dX0_plan_43
-- X0.countOf
def fX0_countOf_L4 (w : qMem) (h : Nat)  : Nat → Int32 → Int32 → Int32 → Option (Int32)
  | 0, _, _, _ => none
  | n + 1, x1, x2, x3 =>
    if w (19 * h) 2 ≤ x3 then
      some (x2)
    else
      qbd (fX0_propAt w h x3) fun (r3 : Nat) =>
      if qisPb r3 = true then
      if w r3 0 = x1 then
        qnm (x2 + 1) fun (x7 : Int32) =>
        qnm (x3 + 1) fun (x8 : Int32) =>
        fX0_countOf_L4 w h n x1 x7 x8
      else
        qnm (x3 + 1) fun (x6 : Int32) =>
        fX0_countOf_L4 w h n x1 x2 x6
      else none
set_option maxHeartbeats 4000000 in
set_option maxRecDepth 100000 in
theorem mX0_countOf_L4 {p : Program} {l : Launch} {e : Env} {s : State} {m : MethodId} {args : Array Value} {below : List Frame} {meth : Method} {c0 : Code} {D : va_G} {G : Nat → ClassId} {ad : Nat → Nat} {w : qMem} {h : Nat} (hh : h < 12) {rF : Int32}  (hC : qCx p c0 cX0_countOf 4 s m args meth RX0 D G ad) (hr : meth.sig.returnType = some .int)  : ∀ (n : Nat), ∀ (x1 : Int32) (x2 : Int32) (x3 : Int32) (H : Heap) (locs : List Loc) (ls : Array Slot), fX0_countOf_L4 w h n x1 x2 x3 = some rF → qRp D G ad s w H locs → lv_has ls 4 [(0, .ref (ad (19 * h))), (1, .int x1), (2, .int x2), (3, .int x3)] → W p l e (qrm 2 0 0) s m args below meth c0 H locs 0 0 (MQ below (qQI D G ad s w rF) args s 0 0 (qAdr ad s.heap.size)) (F0 m 4 ls []) := by
  have hx := hC.1
  have hb := hC.2.1
  intro n
  induction n with
  | zero => intro x1 x2 x3 H locs ls hf; exact nomatch (show (none : Option (Int32)) = some _ from hf)
  | succ n ih =>
    intro x1 x2 x3 H locs ls hf hR hl
    rw [fX0_countOf_L4] at hf
    refine lv_iload_n hx hb dX0_countOf_4 rfl (lv_at hl 3 rfl) ?_
    refine lv_aload_n hx hb dX0_countOf_5 rfl (lv_at hl 0 rfl) ?_
    refine qget_X0_2 hC hR hh qk_113 dX0_countOf_6 ?_
    refine lv_icmp_ge (tgt := 33) hx hb dX0_countOf_9 (by decide) (fun c_1 => ?_) (fun c_1 => ?_)
    · have hf := qif_t hf c_1
      refine lv_iload_n hx hb dX0_countOf_33 rfl (lv_at hl 2 rfl) ?_
      exact q_iret hC hR hr rfl (qso hf) rfl dX0_countOf_34
    · have hf := qif_f hf c_1
      refine lv_aload_n hx hb dX0_countOf_12 rfl (lv_at hl 0 rfl) ?_
      refine lv_iload_n hx hb dX0_countOf_13 rfl (lv_at hl 3 rfl) ?_
      obtain ⟨r3, hq2, hf⟩ := qbd_s hf
      obtain ⟨g4, hf⟩ := qgd hf
      refine q_callVr hC hR (mX0_propAt (qJ hC) hh hq2) (by have := hh; omega) (qsh_hall G ad _ hh) rfl qk_289 qk_290 qk_291 qk_20 qk_292 qhd_X0_propAt ⟨Nat.le_of_ble_eq_true rfl, Nat.le_of_ble_eq_true rfl⟩ hl.1 rfl (Nat.le_of_ble_eq_true rfl) dX0_countOf_14 ⟨Nat.zero_le _, Nat.zero_le _⟩ (fun H locs hR => ?_)
      refine qget_X3_0 hC hR (qisPb_ok g4) qk_73 dX0_countOf_17 ?_
      refine lv_iload_n hx hb dX0_countOf_20 rfl (lv_at hl 1 rfl) ?_
      refine lv_icmp_ne (tgt := 27) hx hb dX0_countOf_21 (by decide) (fun c_5 => ?_) (fun c_5 => ?_)
      · have hf := qif_f hf c_5
        obtain ⟨x6, ex6⟩ : ∃ y : Int32, y = x3 + 1 := ⟨_, rfl⟩
        have hf := qnm_t hf ex6
        refine lv_iinc (v := x6) (lv' := [(3, .int x6), (0, .ref (ad (19 * h))), (1, .int x1), (2, .int x2)]) hx hb dX0_countOf_27 hl (k := 3) rfl (by rw [ex6]; rfl) (by decide) rfl (fun ls hl => ?_)
        refine lv_goto (tgt := 4) hx hb dX0_countOf_30 (by decide) ?_
        exact ih _ _ _ _ _ _ hf hR (lv_sub hl [1, 2, 3, 0] rfl)
      · have hf := qif_t hf c_5
        obtain ⟨x7, ex7⟩ : ∃ y : Int32, y = x2 + 1 := ⟨_, rfl⟩
        have hf := qnm_t hf ex7
        refine lv_iinc (v := x7) (lv' := [(2, .int x7), (0, .ref (ad (19 * h))), (1, .int x1), (3, .int x3)]) hx hb dX0_countOf_24 hl (k := 2) rfl (by rw [ex7]; rfl) (by decide) rfl (fun ls hl => ?_)
        obtain ⟨x8, ex8⟩ : ∃ y : Int32, y = x3 + 1 := ⟨_, rfl⟩
        have hf := qnm_t hf ex8
        refine lv_iinc (v := x8) (lv' := [(3, .int x8), (2, .int x7), (0, .ref (ad (19 * h))), (1, .int x1)]) hx hb dX0_countOf_27 hl (k := 3) rfl (by rw [ex8]; rfl) (by decide) rfl (fun ls hl => ?_)
        refine lv_goto (tgt := 4) hx hb dX0_countOf_30 (by decide) ?_
        exact ih _ _ _ _ _ _ hf hR (lv_sub hl [2, 3, 1, 0] rfl)
def fX0_countOf (w : qMem) (h : Nat) (a1 : Int32) : Option (Int32) :=
  fX0_countOf_L4 w h 100 a1 0 0
theorem qhd_X0_countOf : yX0_countOf.cls ≠ "java/lang/invoke/MethodHandle" ∧ yX0_countOf.cls ≠ "java/lang/invoke/VarHandle" ∧ (parseMethodDescriptor yX0_countOf.desc).map (fun d => d.parameters.length) = some 1 := ⟨by decide +kernel, by decide +kernel, by decide +kernel⟩
set_option maxHeartbeats 4000000 in
set_option maxRecDepth 100000 in
theorem mX0_countOf {l : Launch} {D : va_G} {G : Nat → ClassId} {ad : Nat → Nat} (hJ : qInj ad) {w : qMem} {h : Nat} (hh : h < 12) {a1 : Int32} {rF : Int32} (hf : fX0_countOf w h a1 = some rF) : qCMi l D G ad yX0_countOf cX0_countOf 4 (some .int) 2 0 0 [.ref (ad (19 * h)), .int a1] w rF w := by
  refine q_start RX0 rfl (by decide +kernel) hJ (fun a b h => by simp only [qQI, qQV, qQR, qQD, qQF, h]) (Nat.le_of_ble_eq_true rfl) ?_
  intro p e s m args below meth c0 ls hC hr hR hl
  have hx := hC.1
  have hb := hC.2.1
  have hl : lv_has ls 4 [(0, .ref (ad (19 * h))), (1, .int a1)] := hl
  unfold fX0_countOf at hf
  refine lv_iconst (v := 0) hx hb dX0_countOf_0 (by decide) ?_
  refine lv_istore_n (lv' := [(2, .int 0), (0, .ref (ad (19 * h))), (1, .int a1)]) hx hb dX0_countOf_1 rfl hl (by decide) rfl (fun ls hl => ?_)
  refine lv_iconst (v := 0) hx hb dX0_countOf_2 (by decide) ?_
  refine lv_istore_n (lv' := [(3, .int 0), (2, .int 0), (0, .ref (ad (19 * h))), (1, .int a1)]) hx hb dX0_countOf_3 rfl hl (by decide) rfl (fun ls hl => ?_)
  exact mX0_countOf_L4 hh hC hr 100 _ _ _ _ _ _ hf hR (lv_sub hl [2, 3, 1, 0] rfl)
-- X0.countOn
def fX0_countOn_L5 (w : qMem) (h : Nat)  : Nat → Int32 → Int32 → Int32 → Int32 → Option (Int32)
  | 0, _, _, _, _ => none
  | n + 1, x1, x2, x3, x4 =>
    if w (19 * h) 2 ≤ x4 then
      some (x3)
    else
      qbd (fX0_propAt w h x4) fun (r3 : Nat) =>
      if qisPb r3 = true then
      if w r3 0 = x1 then
        if w r3 1 = x2 then
          qnm (x3 + 1) fun (x9 : Int32) =>
          qnm (x4 + 1) fun (x10 : Int32) =>
          fX0_countOn_L5 w h n x1 x2 x9 x10
        else
          qnm (x4 + 1) fun (x8 : Int32) =>
          fX0_countOn_L5 w h n x1 x2 x3 x8
      else
        qnm (x4 + 1) fun (x6 : Int32) =>
        fX0_countOn_L5 w h n x1 x2 x3 x6
      else none
set_option maxHeartbeats 4000000 in
set_option maxRecDepth 100000 in
theorem mX0_countOn_L5 {p : Program} {l : Launch} {e : Env} {s : State} {m : MethodId} {args : Array Value} {below : List Frame} {meth : Method} {c0 : Code} {D : va_G} {G : Nat → ClassId} {ad : Nat → Nat} {w : qMem} {h : Nat} (hh : h < 12) {rF : Int32}  (hC : qCx p c0 cX0_countOn 6 s m args meth RX0 D G ad) (hr : meth.sig.returnType = some .int)  : ∀ (n : Nat), ∀ (x1 : Int32) (x2 : Int32) (x3 : Int32) (x4 : Int32) (H : Heap) (locs : List Loc) (ls : Array Slot), fX0_countOn_L5 w h n x1 x2 x3 x4 = some rF → qRp D G ad s w H locs → lv_has ls 6 [(0, .ref (ad (19 * h))), (1, .int x1), (2, .int x2), (3, .int x3), (4, .int x4)] → W p l e (qrm 2 0 0) s m args below meth c0 H locs 0 0 (MQ below (qQI D G ad s w rF) args s 0 0 (qAdr ad s.heap.size)) (F0 m 5 ls []) := by
  have hx := hC.1
  have hb := hC.2.1
  intro n
  induction n with
  | zero => intro x1 x2 x3 x4 H locs ls hf; exact nomatch (show (none : Option (Int32)) = some _ from hf)
  | succ n ih =>
    intro x1 x2 x3 x4 H locs ls hf hR hl
    rw [fX0_countOn_L5] at hf
    refine lv_iload hx hb dX0_countOn_5 (lv_at hl 4 rfl) ?_
    refine lv_aload_n hx hb dX0_countOn_7 rfl (lv_at hl 0 rfl) ?_
    refine qget_X0_2 hC hR hh qk_113 dX0_countOn_8 ?_
    refine lv_icmp_ge (tgt := 49) hx hb dX0_countOn_11 (by decide) (fun c_1 => ?_) (fun c_1 => ?_)
    · have hf := qif_t hf c_1
      refine lv_iload_n hx hb dX0_countOn_49 rfl (lv_at hl 3 rfl) ?_
      exact q_iret hC hR hr rfl (qso hf) rfl dX0_countOn_50
    · have hf := qif_f hf c_1
      refine lv_aload_n hx hb dX0_countOn_14 rfl (lv_at hl 0 rfl) ?_
      refine lv_iload hx hb dX0_countOn_15 (lv_at hl 4 rfl) ?_
      obtain ⟨r3, hq2, hf⟩ := qbd_s hf
      obtain ⟨g4, hf⟩ := qgd hf
      refine q_callVr hC hR (mX0_propAt (qJ hC) hh hq2) (by have := hh; omega) (qsh_hall G ad _ hh) rfl qk_289 qk_290 qk_291 qk_20 qk_292 qhd_X0_propAt ⟨Nat.le_of_ble_eq_true rfl, Nat.le_of_ble_eq_true rfl⟩ hl.1 rfl (Nat.le_of_ble_eq_true rfl) dX0_countOn_17 ⟨Nat.zero_le _, Nat.zero_le _⟩ (fun H locs hR => ?_)
      refine lv_astore (lv' := [(5, .ref (ad (r3))), (0, .ref (ad (19 * h))), (1, .int x1), (2, .int x2), (3, .int x3), (4, .int x4)]) hx hb dX0_countOn_20 hl (by decide) rfl (fun ls hl => ?_)
      refine lv_aload hx hb dX0_countOn_22 (lv_at hl 0 rfl) ?_
      refine qget_X3_0 hC hR (qisPb_ok g4) qk_73 dX0_countOn_24 ?_
      refine lv_iload_n hx hb dX0_countOn_27 rfl (lv_at hl 2 rfl) ?_
      refine lv_icmp_ne (tgt := 43) hx hb dX0_countOn_28 (by decide) (fun c_5 => ?_) (fun c_5 => ?_)
      · have hf := qif_f hf c_5
        obtain ⟨x6, ex6⟩ : ∃ y : Int32, y = x4 + 1 := ⟨_, rfl⟩
        have hf := qnm_t hf ex6
        refine lv_iinc (v := x6) (lv' := [(4, .int x6), (5, .ref (ad (r3))), (0, .ref (ad (19 * h))), (1, .int x1), (2, .int x2), (3, .int x3)]) hx hb dX0_countOn_43 hl (k := 5) rfl (by rw [ex6]; rfl) (by decide) rfl (fun ls hl => ?_)
        refine lv_goto (tgt := 5) hx hb dX0_countOn_46 (by decide) ?_
        exact ih _ _ _ _ _ _ _ hf hR (lv_sub hl [2, 3, 4, 5, 0] rfl)
      · have hf := qif_t hf c_5
        refine lv_aload hx hb dX0_countOn_31 (lv_at hl 0 rfl) ?_
        refine qget_X3_1 hC hR (qisPb_ok g4) qk_77 dX0_countOn_33 ?_
        refine lv_iload_n hx hb dX0_countOn_36 rfl (lv_at hl 3 rfl) ?_
        refine lv_icmp_ne (tgt := 43) hx hb dX0_countOn_37 (by decide) (fun c_7 => ?_) (fun c_7 => ?_)
        · have hf := qif_f hf c_7
          obtain ⟨x8, ex8⟩ : ∃ y : Int32, y = x4 + 1 := ⟨_, rfl⟩
          have hf := qnm_t hf ex8
          refine lv_iinc (v := x8) (lv' := [(4, .int x8), (5, .ref (ad (r3))), (0, .ref (ad (19 * h))), (1, .int x1), (2, .int x2), (3, .int x3)]) hx hb dX0_countOn_43 hl (k := 5) rfl (by rw [ex8]; rfl) (by decide) rfl (fun ls hl => ?_)
          refine lv_goto (tgt := 5) hx hb dX0_countOn_46 (by decide) ?_
          exact ih _ _ _ _ _ _ _ hf hR (lv_sub hl [2, 3, 4, 5, 0] rfl)
        · have hf := qif_t hf c_7
          obtain ⟨x9, ex9⟩ : ∃ y : Int32, y = x3 + 1 := ⟨_, rfl⟩
          have hf := qnm_t hf ex9
          refine lv_iinc (v := x9) (lv' := [(3, .int x9), (5, .ref (ad (r3))), (0, .ref (ad (19 * h))), (1, .int x1), (2, .int x2), (4, .int x4)]) hx hb dX0_countOn_40 hl (k := 4) rfl (by rw [ex9]; rfl) (by decide) rfl (fun ls hl => ?_)
          obtain ⟨x10, ex10⟩ : ∃ y : Int32, y = x4 + 1 := ⟨_, rfl⟩
          have hf := qnm_t hf ex10
          refine lv_iinc (v := x10) (lv' := [(4, .int x10), (3, .int x9), (5, .ref (ad (r3))), (0, .ref (ad (19 * h))), (1, .int x1), (2, .int x2)]) hx hb dX0_countOn_43 hl (k := 5) rfl (by rw [ex10]; rfl) (by decide) rfl (fun ls hl => ?_)
          refine lv_goto (tgt := 5) hx hb dX0_countOn_46 (by decide) ?_
          exact ih _ _ _ _ _ _ _ hf hR (lv_sub hl [3, 4, 5, 1, 0] rfl)
def fX0_countOn (w : qMem) (h : Nat) (a1 : Int32) (a2 : Int32) : Option (Int32) :=
  fX0_countOn_L5 w h 100 a1 a2 0 0
theorem qhd_X0_countOn : yX0_countOn.cls ≠ "java/lang/invoke/MethodHandle" ∧ yX0_countOn.cls ≠ "java/lang/invoke/VarHandle" ∧ (parseMethodDescriptor yX0_countOn.desc).map (fun d => d.parameters.length) = some 2 := ⟨by decide +kernel, by decide +kernel, by decide +kernel⟩
set_option maxHeartbeats 4000000 in
set_option maxRecDepth 100000 in
theorem mX0_countOn {l : Launch} {D : va_G} {G : Nat → ClassId} {ad : Nat → Nat} (hJ : qInj ad) {w : qMem} {h : Nat} (hh : h < 12) {a1 : Int32} {a2 : Int32} {rF : Int32} (hf : fX0_countOn w h a1 a2 = some rF) : qCMi l D G ad yX0_countOn cX0_countOn 6 (some .int) 2 0 0 [.ref (ad (19 * h)), .int a1, .int a2] w rF w := by
  refine q_start RX0 rfl (by decide +kernel) hJ (fun a b h => by simp only [qQI, qQV, qQR, qQD, qQF, h]) (Nat.le_of_ble_eq_true rfl) ?_
  intro p e s m args below meth c0 ls hC hr hR hl
  have hx := hC.1
  have hb := hC.2.1
  have hl : lv_has ls 6 [(0, .ref (ad (19 * h))), (1, .int a1), (2, .int a2)] := hl
  unfold fX0_countOn at hf
  refine lv_iconst (v := 0) hx hb dX0_countOn_0 (by decide) ?_
  refine lv_istore_n (lv' := [(3, .int 0), (0, .ref (ad (19 * h))), (1, .int a1), (2, .int a2)]) hx hb dX0_countOn_1 rfl hl (by decide) rfl (fun ls hl => ?_)
  refine lv_iconst (v := 0) hx hb dX0_countOn_2 (by decide) ?_
  refine lv_istore (lv' := [(4, .int 0), (3, .int 0), (0, .ref (ad (19 * h))), (1, .int a1), (2, .int a2)]) hx hb dX0_countOn_3 hl (by decide) rfl (fun ls hl => ?_)
  exact mX0_countOn_L5 hh hC hr 100 _ _ _ _ _ _ _ hf hR (lv_sub hl [2, 3, 4, 1, 0] rfl)
-- X0.countBroken
def fX0_countBroken_L4 (w : qMem) (h : Nat)  : Nat → Int32 → Int32 → Option (Int32)
  | 0, _, _ => none
  | n + 1, x1, x2 =>
    if w (19 * h) 2 ≤ x2 then
      some (x1)
    else
      qbd (fX0_propAt w h x2) fun (r3 : Nat) =>
      if qisPb r3 = true then
      if w r3 4 = 0 then
        qnm (x2 + 1) fun (x6 : Int32) =>
        fX0_countBroken_L4 w h n x1 x6
      else
        qnm (x1 + 1) fun (x7 : Int32) =>
        qnm (x2 + 1) fun (x8 : Int32) =>
        fX0_countBroken_L4 w h n x7 x8
      else none
set_option maxHeartbeats 4000000 in
set_option maxRecDepth 100000 in
theorem mX0_countBroken_L4 {p : Program} {l : Launch} {e : Env} {s : State} {m : MethodId} {args : Array Value} {below : List Frame} {meth : Method} {c0 : Code} {D : va_G} {G : Nat → ClassId} {ad : Nat → Nat} {w : qMem} {h : Nat} (hh : h < 12) {rF : Int32}  (hC : qCx p c0 cX0_countBroken 3 s m args meth RX0 D G ad) (hr : meth.sig.returnType = some .int)  : ∀ (n : Nat), ∀ (x1 : Int32) (x2 : Int32) (H : Heap) (locs : List Loc) (ls : Array Slot), fX0_countBroken_L4 w h n x1 x2 = some rF → qRp D G ad s w H locs → lv_has ls 3 [(0, .ref (ad (19 * h))), (1, .int x1), (2, .int x2)] → W p l e (qrm 2 0 0) s m args below meth c0 H locs 0 0 (MQ below (qQI D G ad s w rF) args s 0 0 (qAdr ad s.heap.size)) (F0 m 4 ls []) := by
  have hx := hC.1
  have hb := hC.2.1
  intro n
  induction n with
  | zero => intro x1 x2 H locs ls hf; exact nomatch (show (none : Option (Int32)) = some _ from hf)
  | succ n ih =>
    intro x1 x2 H locs ls hf hR hl
    rw [fX0_countBroken_L4] at hf
    refine lv_iload_n hx hb dX0_countBroken_4 rfl (lv_at hl 2 rfl) ?_
    refine lv_aload_n hx hb dX0_countBroken_5 rfl (lv_at hl 0 rfl) ?_
    refine qget_X0_2 hC hR hh qk_113 dX0_countBroken_6 ?_
    refine lv_icmp_ge (tgt := 32) hx hb dX0_countBroken_9 (by decide) (fun c_1 => ?_) (fun c_1 => ?_)
    · have hf := qif_t hf c_1
      refine lv_iload_n hx hb dX0_countBroken_32 rfl (lv_at hl 1 rfl) ?_
      exact q_iret hC hR hr rfl (qso hf) rfl dX0_countBroken_33
    · have hf := qif_f hf c_1
      refine lv_aload_n hx hb dX0_countBroken_12 rfl (lv_at hl 0 rfl) ?_
      refine lv_iload_n hx hb dX0_countBroken_13 rfl (lv_at hl 2 rfl) ?_
      obtain ⟨r3, hq2, hf⟩ := qbd_s hf
      obtain ⟨g4, hf⟩ := qgd hf
      refine q_callVr hC hR (mX0_propAt (qJ hC) hh hq2) (by have := hh; omega) (qsh_hall G ad _ hh) rfl qk_289 qk_290 qk_291 qk_20 qk_292 qhd_X0_propAt ⟨Nat.le_of_ble_eq_true rfl, Nat.le_of_ble_eq_true rfl⟩ hl.1 rfl (Nat.le_of_ble_eq_true rfl) dX0_countBroken_14 ⟨Nat.zero_le _, Nat.zero_le _⟩ (fun H locs hR => ?_)
      refine qget_X3_4 hC hR (qisPb_ok g4) qk_89 dX0_countBroken_17 ?_
      refine lv_if_eq (tgt := 26) hx hb dX0_countBroken_20 (by decide) (fun c_5 => ?_) (fun c_5 => ?_)
      · have hf := qif_t hf c_5
        obtain ⟨x6, ex6⟩ : ∃ y : Int32, y = x2 + 1 := ⟨_, rfl⟩
        have hf := qnm_t hf ex6
        refine lv_iinc (v := x6) (lv' := [(2, .int x6), (0, .ref (ad (19 * h))), (1, .int x1)]) hx hb dX0_countBroken_26 hl (k := 2) rfl (by rw [ex6]; rfl) (by decide) rfl (fun ls hl => ?_)
        refine lv_goto (tgt := 4) hx hb dX0_countBroken_29 (by decide) ?_
        exact ih _ _ _ _ _ hf hR (lv_sub hl [1, 2, 0] rfl)
      · have hf := qif_f hf c_5
        obtain ⟨x7, ex7⟩ : ∃ y : Int32, y = x1 + 1 := ⟨_, rfl⟩
        have hf := qnm_t hf ex7
        refine lv_iinc (v := x7) (lv' := [(1, .int x7), (0, .ref (ad (19 * h))), (2, .int x2)]) hx hb dX0_countBroken_23 hl (k := 1) rfl (by rw [ex7]; rfl) (by decide) rfl (fun ls hl => ?_)
        obtain ⟨x8, ex8⟩ : ∃ y : Int32, y = x2 + 1 := ⟨_, rfl⟩
        have hf := qnm_t hf ex8
        refine lv_iinc (v := x8) (lv' := [(2, .int x8), (1, .int x7), (0, .ref (ad (19 * h)))]) hx hb dX0_countBroken_26 hl (k := 2) rfl (by rw [ex8]; rfl) (by decide) rfl (fun ls hl => ?_)
        refine lv_goto (tgt := 4) hx hb dX0_countBroken_29 (by decide) ?_
        exact ih _ _ _ _ _ hf hR (lv_sub hl [2, 1, 0] rfl)
def fX0_countBroken (w : qMem) (h : Nat)  : Option (Int32) :=
  fX0_countBroken_L4 w h 100 0 0
theorem qhd_X0_countBroken : yX0_countBroken.cls ≠ "java/lang/invoke/MethodHandle" ∧ yX0_countBroken.cls ≠ "java/lang/invoke/VarHandle" ∧ (parseMethodDescriptor yX0_countBroken.desc).map (fun d => d.parameters.length) = some 0 := ⟨by decide +kernel, by decide +kernel, by decide +kernel⟩
set_option maxHeartbeats 4000000 in
set_option maxRecDepth 100000 in
theorem mX0_countBroken {l : Launch} {D : va_G} {G : Nat → ClassId} {ad : Nat → Nat} (hJ : qInj ad) {w : qMem} {h : Nat} (hh : h < 12)  {rF : Int32} (hf : fX0_countBroken w h = some rF) : qCMi l D G ad yX0_countBroken cX0_countBroken 3 (some .int) 2 0 0 [.ref (ad (19 * h))] w rF w := by
  refine q_start RX0 rfl (by decide +kernel) hJ (fun a b h => by simp only [qQI, qQV, qQR, qQD, qQF, h]) (Nat.le_of_ble_eq_true rfl) ?_
  intro p e s m args below meth c0 ls hC hr hR hl
  have hx := hC.1
  have hb := hC.2.1
  have hl : lv_has ls 3 [(0, .ref (ad (19 * h)))] := hl
  unfold fX0_countBroken at hf
  refine lv_iconst (v := 0) hx hb dX0_countBroken_0 (by decide) ?_
  refine lv_istore_n (lv' := [(1, .int 0), (0, .ref (ad (19 * h)))]) hx hb dX0_countBroken_1 rfl hl (by decide) rfl (fun ls hl => ?_)
  refine lv_iconst (v := 0) hx hb dX0_countBroken_2 (by decide) ?_
  refine lv_istore_n (lv' := [(2, .int 0), (1, .int 0), (0, .ref (ad (19 * h)))]) hx hb dX0_countBroken_3 rfl hl (by decide) rfl (fun ls hl => ?_)
  exact mX0_countBroken_L4 hh hC hr 100 _ _ _ _ _ hf hR (lv_sub hl [2, 1, 0] rfl)
-- X0.sumOfGrades
def fX0_sumOfGrades_L4 (w : qMem) (h : Nat)  : Nat → Int32 → Int32 → Option (Int32)
  | 0, _, _ => none
  | n + 1, x1, x2 =>
    if w (19 * h) 2 ≤ x2 then
      some (x1)
    else
      qbd (fX0_propAt w h x2) fun (r3 : Nat) =>
      if qisPb r3 = true then
      if w r3 0 = 1 then
        qnm (x1 + (w r3 2)) fun (x7 : Int32) =>
        qnm (x2 + 1) fun (x8 : Int32) =>
        fX0_sumOfGrades_L4 w h n x7 x8
      else
        qnm (x2 + 1) fun (x6 : Int32) =>
        fX0_sumOfGrades_L4 w h n x1 x6
      else none
set_option maxHeartbeats 4000000 in
set_option maxRecDepth 100000 in
theorem mX0_sumOfGrades_L4 {p : Program} {l : Launch} {e : Env} {s : State} {m : MethodId} {args : Array Value} {below : List Frame} {meth : Method} {c0 : Code} {D : va_G} {G : Nat → ClassId} {ad : Nat → Nat} {w : qMem} {h : Nat} (hh : h < 12) {rF : Int32}  (hC : qCx p c0 cX0_sumOfGrades 4 s m args meth RX0 D G ad) (hr : meth.sig.returnType = some .int)  : ∀ (n : Nat), ∀ (x1 : Int32) (x2 : Int32) (H : Heap) (locs : List Loc) (ls : Array Slot), fX0_sumOfGrades_L4 w h n x1 x2 = some rF → qRp D G ad s w H locs → lv_has ls 4 [(0, .ref (ad (19 * h))), (1, .int x1), (2, .int x2)] → W p l e (qrm 2 0 0) s m args below meth c0 H locs 0 0 (MQ below (qQI D G ad s w rF) args s 0 0 (qAdr ad s.heap.size)) (F0 m 4 ls []) := by
  have hx := hC.1
  have hb := hC.2.1
  intro n
  induction n with
  | zero => intro x1 x2 H locs ls hf; exact nomatch (show (none : Option (Int32)) = some _ from hf)
  | succ n ih =>
    intro x1 x2 H locs ls hf hR hl
    rw [fX0_sumOfGrades_L4] at hf
    refine lv_iload_n hx hb dX0_sumOfGrades_4 rfl (lv_at hl 2 rfl) ?_
    refine lv_aload_n hx hb dX0_sumOfGrades_5 rfl (lv_at hl 0 rfl) ?_
    refine qget_X0_2 hC hR hh qk_113 dX0_sumOfGrades_6 ?_
    refine lv_icmp_ge (tgt := 39) hx hb dX0_sumOfGrades_9 (by decide) (fun c_1 => ?_) (fun c_1 => ?_)
    · have hf := qif_t hf c_1
      refine lv_iload_n hx hb dX0_sumOfGrades_39 rfl (lv_at hl 1 rfl) ?_
      exact q_iret hC hR hr rfl (qso hf) rfl dX0_sumOfGrades_40
    · have hf := qif_f hf c_1
      refine lv_aload_n hx hb dX0_sumOfGrades_12 rfl (lv_at hl 0 rfl) ?_
      refine lv_iload_n hx hb dX0_sumOfGrades_13 rfl (lv_at hl 2 rfl) ?_
      obtain ⟨r3, hq2, hf⟩ := qbd_s hf
      obtain ⟨g4, hf⟩ := qgd hf
      refine q_callVr hC hR (mX0_propAt (qJ hC) hh hq2) (by have := hh; omega) (qsh_hall G ad _ hh) rfl qk_289 qk_290 qk_291 qk_20 qk_292 qhd_X0_propAt ⟨Nat.le_of_ble_eq_true rfl, Nat.le_of_ble_eq_true rfl⟩ hl.1 rfl (Nat.le_of_ble_eq_true rfl) dX0_sumOfGrades_14 ⟨Nat.zero_le _, Nat.zero_le _⟩ (fun H locs hR => ?_)
      refine lv_astore_n (lv' := [(3, .ref (ad (r3))), (0, .ref (ad (19 * h))), (1, .int x1), (2, .int x2)]) hx hb dX0_sumOfGrades_17 rfl hl (by decide) rfl (fun ls hl => ?_)
      refine lv_aload_n hx hb dX0_sumOfGrades_18 rfl (lv_at hl 0 rfl) ?_
      refine qget_X3_0 hC hR (qisPb_ok g4) qk_73 dX0_sumOfGrades_19 ?_
      refine lv_iconst (v := 1) hx hb dX0_sumOfGrades_22 (by decide) ?_
      refine lv_icmp_ne (tgt := 33) hx hb dX0_sumOfGrades_23 (by decide) (fun c_5 => ?_) (fun c_5 => ?_)
      · have hf := qif_f hf c_5
        obtain ⟨x6, ex6⟩ : ∃ y : Int32, y = x2 + 1 := ⟨_, rfl⟩
        have hf := qnm_t hf ex6
        refine lv_iinc (v := x6) (lv' := [(2, .int x6), (3, .ref (ad (r3))), (0, .ref (ad (19 * h))), (1, .int x1)]) hx hb dX0_sumOfGrades_33 hl (k := 3) rfl (by rw [ex6]; rfl) (by decide) rfl (fun ls hl => ?_)
        refine lv_goto (tgt := 4) hx hb dX0_sumOfGrades_36 (by decide) ?_
        exact ih _ _ _ _ _ hf hR (lv_sub hl [2, 3, 0] rfl)
      · have hf := qif_t hf c_5
        refine lv_iload_n hx hb dX0_sumOfGrades_26 rfl (lv_at hl 2 rfl) ?_
        refine lv_aload_n hx hb dX0_sumOfGrades_27 rfl (lv_at hl 0 rfl) ?_
        refine qget_X3_2 hC hR (qisPb_ok g4) qk_81 dX0_sumOfGrades_28 ?_
        refine lv_iadd hx hb dX0_sumOfGrades_31 ?_
        refine lv_topi (fun x7 ex7 => ?_)
        have hf := qnm_t hf ex7
        refine lv_istore_n (lv' := [(1, .int x7), (3, .ref (ad (r3))), (0, .ref (ad (19 * h))), (2, .int x2)]) hx hb dX0_sumOfGrades_32 rfl hl (by decide) rfl (fun ls hl => ?_)
        obtain ⟨x8, ex8⟩ : ∃ y : Int32, y = x2 + 1 := ⟨_, rfl⟩
        have hf := qnm_t hf ex8
        refine lv_iinc (v := x8) (lv' := [(2, .int x8), (1, .int x7), (3, .ref (ad (r3))), (0, .ref (ad (19 * h)))]) hx hb dX0_sumOfGrades_33 hl (k := 3) rfl (by rw [ex8]; rfl) (by decide) rfl (fun ls hl => ?_)
        refine lv_goto (tgt := 4) hx hb dX0_sumOfGrades_36 (by decide) ?_
        exact ih _ _ _ _ _ hf hR (lv_sub hl [3, 1, 0] rfl)
def fX0_sumOfGrades (w : qMem) (h : Nat)  : Option (Int32) :=
  fX0_sumOfGrades_L4 w h 100 0 0
theorem qhd_X0_sumOfGrades : yX0_sumOfGrades.cls ≠ "java/lang/invoke/MethodHandle" ∧ yX0_sumOfGrades.cls ≠ "java/lang/invoke/VarHandle" ∧ (parseMethodDescriptor yX0_sumOfGrades.desc).map (fun d => d.parameters.length) = some 0 := ⟨by decide +kernel, by decide +kernel, by decide +kernel⟩
set_option maxHeartbeats 4000000 in
set_option maxRecDepth 100000 in
theorem mX0_sumOfGrades {l : Launch} {D : va_G} {G : Nat → ClassId} {ad : Nat → Nat} (hJ : qInj ad) {w : qMem} {h : Nat} (hh : h < 12)  {rF : Int32} (hf : fX0_sumOfGrades w h = some rF) : qCMi l D G ad yX0_sumOfGrades cX0_sumOfGrades 4 (some .int) 2 0 0 [.ref (ad (19 * h))] w rF w := by
  refine q_start RX0 rfl (by decide +kernel) hJ (fun a b h => by simp only [qQI, qQV, qQR, qQD, qQF, h]) (Nat.le_of_ble_eq_true rfl) ?_
  intro p e s m args below meth c0 ls hC hr hR hl
  have hx := hC.1
  have hb := hC.2.1
  have hl : lv_has ls 4 [(0, .ref (ad (19 * h)))] := hl
  unfold fX0_sumOfGrades at hf
  refine lv_iconst (v := 0) hx hb dX0_sumOfGrades_0 (by decide) ?_
  refine lv_istore_n (lv' := [(1, .int 0), (0, .ref (ad (19 * h)))]) hx hb dX0_sumOfGrades_1 rfl hl (by decide) rfl (fun ls hl => ?_)
  refine lv_iconst (v := 0) hx hb dX0_sumOfGrades_2 (by decide) ?_
  refine lv_istore_n (lv' := [(2, .int 0), (1, .int 0), (0, .ref (ad (19 * h)))]) hx hb dX0_sumOfGrades_3 rfl hl (by decide) rfl (fun ls hl => ?_)
  exact mX0_sumOfGrades_L4 hh hC hr 100 _ _ _ _ _ hf hR (lv_sub hl [2, 1, 0] rfl)
-- X0.reachOn
def fX0_reachOn (w : qMem) (h : Nat) (a1 : Int32) : Option (Int32) :=
  qbd (fX5_isFloor w a1) fun (r2 : Int32) =>
  if r2 = 0 then
    some (0)
  else
    if qin a1 5 = true then
    some (w (19 * h + 17) (a1).toNatClampNeg)
    else none
theorem qhd_X0_reachOn : yX0_reachOn.cls ≠ "java/lang/invoke/MethodHandle" ∧ yX0_reachOn.cls ≠ "java/lang/invoke/VarHandle" ∧ (parseMethodDescriptor yX0_reachOn.desc).map (fun d => d.parameters.length) = some 1 := ⟨by decide +kernel, by decide +kernel, by decide +kernel⟩
set_option maxHeartbeats 4000000 in
set_option maxRecDepth 100000 in
theorem mX0_reachOn {l : Launch} {D : va_G} {G : Nat → ClassId} {ad : Nat → Nat} (hJ : qInj ad) {w : qMem} {h : Nat} (hh : h < 12) {a1 : Int32} {rF : Int32} (hf : fX0_reachOn w h a1 = some rF) : qCMi l D G ad yX0_reachOn cX0_reachOn 2 (some .int) 2 0 0 [.ref (ad (19 * h)), .int a1] w rF w := by
  refine q_start RX0 rfl (by decide +kernel) hJ (fun a b h => by simp only [qQI, qQV, qQR, qQD, qQF, h]) (Nat.le_of_ble_eq_true rfl) ?_
  intro p e s m args below meth c0 ls hC hr hR hl
  have hx := hC.1
  have hb := hC.2.1
  have hl : lv_has ls 2 [(0, .ref (ad (19 * h))), (1, .int a1)] := hl
  unfold fX0_reachOn at hf
  refine lv_iload_n hx hb dX0_reachOn_0 rfl (lv_at hl 1 rfl) ?_
  obtain ⟨r2, hq1, hf⟩ := qbd_s hf
  refine q_callSNi hC hR (mX5_isFloor (qJ hC) hq1) (qNest hC) qk_306 qk_19 qk_307 qhd_X5_isFloor ⟨Nat.le_of_ble_eq_true rfl, Nat.le_of_ble_eq_true rfl⟩ hl.1 rfl (Nat.le_of_ble_eq_true rfl) dX0_reachOn_1 ⟨Nat.zero_le _, Nat.zero_le _⟩ (fun H locs hR => ?_)
  refine lv_if_eq (tgt := 16) hx hb dX0_reachOn_4 (by decide) (fun c_3 => ?_) (fun c_3 => ?_)
  · have hf := qif_t hf c_3
    refine lv_iconst (v := 0) hx hb dX0_reachOn_16 (by decide) ?_
    exact q_iret hC hR hr rfl (qso hf) rfl dX0_reachOn_17
  · have hf := qif_f hf c_3
    refine lv_aload_n hx hb dX0_reachOn_7 rfl (lv_at hl 0 rfl) ?_
    refine qget_X0_11 hC hR hh qk_130 dX0_reachOn_8 ?_
    refine lv_iload_n hx hb dX0_reachOn_11 rfl (lv_at hl 1 rfl) ?_
    obtain ⟨g4, hf⟩ := qgd hf
    refine q_ild hC hR (j := (a1).toNatClampNeg) (by have := hh; omega) (qsh_reach G ad _ hh) g4 rfl dX0_reachOn_12 ?_
    refine lv_goto (tgt := 17) hx hb dX0_reachOn_13 (by decide) ?_
    exact q_iret hC hR hr rfl (qso hf) rfl dX0_reachOn_17
-- X0.findCats
def fX0_findCats_L22 (h : Nat)  : Nat → qMem → Int32 → Option (qMem)
  | 0, _, _ => none
  | n + 1, w, x1 =>
    if w (19 * h) 2 ≤ x1 then
      some w
    else
      qbd (fX0_propAt w h x1) fun (r4 : Nat) =>
      if qisPb r4 = true then
      if w r4 0 = 3 then
        qbd (fX5_isFloor w (w r4 1)) fun (r9 : Int32) =>
        if r9 = 0 then
          qnm (x1 + 1) fun (x11 : Int32) =>
          fX0_findCats_L22 h n w x11
        else
          if qin (w r4 1) 5 = true then
          qnm (quw w (19 * h + 16) (w r4 1).toNatClampNeg 1) fun (w13 : qMem) =>
          qnm (x1 + 1) fun (x14 : Int32) =>
          fX0_findCats_L22 h n w13 x14
          else none
      else
        qnm (x1 + 1) fun (x7 : Int32) =>
        fX0_findCats_L22 h n w x7
      else none
set_option maxHeartbeats 4000000 in
set_option maxRecDepth 100000 in
theorem mX0_findCats_L22 {p : Program} {l : Launch} {e : Env} {s : State} {m : MethodId} {args : Array Value} {below : List Frame} {meth : Method} {c0 : Code} {D : va_G} {G : Nat → ClassId} {ad : Nat → Nat} {h : Nat} (hh : h < 12) {wF : qMem}  (hC : qCx p c0 cX0_findCats 3 s m args meth RX0 D G ad) (hr : meth.sig.returnType = none)  : ∀ (n : Nat), ∀ (w : qMem) (x1 : Int32) (H : Heap) (locs : List Loc) (ls : Array Slot), fX0_findCats_L22 h n w x1 = some wF → qRp D G ad s w H locs → lv_has ls 3 [(0, .ref (ad (19 * h))), (1, .int x1)] → W p l e (qrm 2 0 0) s m args below meth c0 H locs 0 0 (MQ below (qQV D G ad s wF) args s 0 0 (qAdr ad s.heap.size)) (F0 m 22 ls []) := by
  have hx := hC.1
  have hb := hC.2.1
  intro n
  induction n with
  | zero => intro w x1 H locs ls hf; exact nomatch (show (none : Option (qMem)) = some _ from hf)
  | succ n ih =>
    intro w x1 H locs ls hf hR hl
    rw [fX0_findCats_L22] at hf
    refine lv_iload_n hx hb dX0_findCats_22 rfl (lv_at hl 1 rfl) ?_
    refine lv_aload_n hx hb dX0_findCats_23 rfl (lv_at hl 0 rfl) ?_
    refine qget_X0_2 hC hR hh qk_113 dX0_findCats_24 ?_
    refine lv_icmp_ge (tgt := 70) hx hb dX0_findCats_27 (by decide) (fun c_2 => ?_) (fun c_2 => ?_)
    · have hf := qif_t hf c_2
      exact q_vret hC hR hr (qso hf) dX0_findCats_70
    · have hf := qif_f hf c_2
      refine lv_aload_n hx hb dX0_findCats_30 rfl (lv_at hl 0 rfl) ?_
      refine lv_iload_n hx hb dX0_findCats_31 rfl (lv_at hl 1 rfl) ?_
      obtain ⟨r4, hq3, hf⟩ := qbd_s hf
      obtain ⟨g5, hf⟩ := qgd hf
      refine q_callVr hC hR (mX0_propAt (qJ hC) hh hq3) (by have := hh; omega) (qsh_hall G ad _ hh) rfl qk_289 qk_290 qk_291 qk_20 qk_292 qhd_X0_propAt ⟨Nat.le_of_ble_eq_true rfl, Nat.le_of_ble_eq_true rfl⟩ hl.1 rfl (Nat.le_of_ble_eq_true rfl) dX0_findCats_32 ⟨Nat.zero_le _, Nat.zero_le _⟩ (fun H locs hR => ?_)
      refine lv_astore_n (lv' := [(2, .ref (ad (r4))), (0, .ref (ad (19 * h))), (1, .int x1)]) hx hb dX0_findCats_35 rfl hl (by decide) rfl (fun ls hl => ?_)
      refine lv_aload_n hx hb dX0_findCats_36 rfl (lv_at hl 0 rfl) ?_
      refine qget_X3_0 hC hR (qisPb_ok g5) qk_73 dX0_findCats_37 ?_
      refine lv_iconst (v := 3) hx hb dX0_findCats_40 (by decide) ?_
      refine lv_icmp_ne (tgt := 64) hx hb dX0_findCats_41 (by decide) (fun c_6 => ?_) (fun c_6 => ?_)
      · have hf := qif_f hf c_6
        obtain ⟨x7, ex7⟩ : ∃ y : Int32, y = x1 + 1 := ⟨_, rfl⟩
        have hf := qnm_t hf ex7
        refine lv_iinc (v := x7) (lv' := [(1, .int x7), (2, .ref (ad (r4))), (0, .ref (ad (19 * h)))]) hx hb dX0_findCats_64 hl (k := 2) rfl (by rw [ex7]; rfl) (by decide) rfl (fun ls hl => ?_)
        refine lv_goto (tgt := 22) hx hb dX0_findCats_67 (by decide) ?_
        exact ih _ _ _ _ _ hf hR (lv_sub hl [2, 0] rfl)
      · have hf := qif_t hf c_6
        refine lv_aload_n hx hb dX0_findCats_44 rfl (lv_at hl 0 rfl) ?_
        refine qget_X3_1 hC hR (qisPb_ok g5) qk_77 dX0_findCats_45 ?_
        obtain ⟨r9, hq8, hf⟩ := qbd_s hf
        refine q_callSNi hC hR (mX5_isFloor (qJ hC) hq8) (qNest hC) qk_306 qk_19 qk_307 qhd_X5_isFloor ⟨Nat.le_of_ble_eq_true rfl, Nat.le_of_ble_eq_true rfl⟩ hl.1 rfl (Nat.le_of_ble_eq_true rfl) dX0_findCats_48 ⟨Nat.zero_le _, Nat.zero_le _⟩ (fun H locs hR => ?_)
        refine lv_if_eq (tgt := 64) hx hb dX0_findCats_51 (by decide) (fun c_10 => ?_) (fun c_10 => ?_)
        · have hf := qif_t hf c_10
          obtain ⟨x11, ex11⟩ : ∃ y : Int32, y = x1 + 1 := ⟨_, rfl⟩
          have hf := qnm_t hf ex11
          refine lv_iinc (v := x11) (lv' := [(1, .int x11), (2, .ref (ad (r4))), (0, .ref (ad (19 * h)))]) hx hb dX0_findCats_64 hl (k := 2) rfl (by rw [ex11]; rfl) (by decide) rfl (fun ls hl => ?_)
          refine lv_goto (tgt := 22) hx hb dX0_findCats_67 (by decide) ?_
          exact ih _ _ _ _ _ hf hR (lv_sub hl [2, 0] rfl)
        · have hf := qif_f hf c_10
          refine lv_aload_n hx hb dX0_findCats_54 rfl (lv_at hl 1 rfl) ?_
          refine qget_X0_10 hC hR hh qk_129 dX0_findCats_55 ?_
          refine lv_aload_n hx hb dX0_findCats_58 rfl (lv_at hl 0 rfl) ?_
          refine qget_X3_1 hC hR (qisPb_ok g5) qk_77 dX0_findCats_59 ?_
          refine lv_iconst (v := 1) hx hb dX0_findCats_62 (by decide) ?_
          obtain ⟨g12, hf⟩ := qgd hf
          refine q_zst hC hR (j := (w r4 1).toNatClampNeg) (by have := hh; omega) (fun f => qsh_hasCat G ad f hh) g12 rfl (by decide) dX0_findCats_63 (fun w13 H locs ew13 hR => ?_)
          have hf := qnm_t hf ew13
          obtain ⟨x14, ex14⟩ : ∃ y : Int32, y = x1 + 1 := ⟨_, rfl⟩
          have hf := qnm_t hf ex14
          refine lv_iinc (v := x14) (lv' := [(1, .int x14), (2, .ref (ad (r4))), (0, .ref (ad (19 * h)))]) hx hb dX0_findCats_64 hl (k := 2) rfl (by rw [ex14]; rfl) (by decide) rfl (fun ls hl => ?_)
          refine lv_goto (tgt := 22) hx hb dX0_findCats_67 (by decide) ?_
          exact ih _ _ _ _ _ hf hR (lv_sub hl [2, 0] rfl)
def fX0_findCats_L2 (h : Nat)  : Nat → qMem → Int32 → Option (qMem)
  | 0, _, _ => none
  | n + 1, w, x1 =>
    if (5 : Int32) ≤ x1 then
      fX0_findCats_L22 h 100 w 0
    else
      if qin x1 5 = true then
      qnm (quw w (19 * h + 16) (x1).toNatClampNeg 0) fun (w16 : qMem) =>
      qnm (x1 + 1) fun (x17 : Int32) =>
      fX0_findCats_L2 h n w16 x17
      else none
set_option maxHeartbeats 4000000 in
set_option maxRecDepth 100000 in
theorem mX0_findCats_L2 {p : Program} {l : Launch} {e : Env} {s : State} {m : MethodId} {args : Array Value} {below : List Frame} {meth : Method} {c0 : Code} {D : va_G} {G : Nat → ClassId} {ad : Nat → Nat} {h : Nat} (hh : h < 12) {wF : qMem}  (hC : qCx p c0 cX0_findCats 3 s m args meth RX0 D G ad) (hr : meth.sig.returnType = none)  : ∀ (n : Nat), ∀ (w : qMem) (x1 : Int32) (H : Heap) (locs : List Loc) (ls : Array Slot), fX0_findCats_L2 h n w x1 = some wF → qRp D G ad s w H locs → lv_has ls 3 [(0, .ref (ad (19 * h))), (1, .int x1)] → W p l e (qrm 2 0 0) s m args below meth c0 H locs 0 0 (MQ below (qQV D G ad s wF) args s 0 0 (qAdr ad s.heap.size)) (F0 m 2 ls []) := by
  have hx := hC.1
  have hb := hC.2.1
  intro n
  induction n with
  | zero => intro w x1 H locs ls hf; exact nomatch (show (none : Option (qMem)) = some _ from hf)
  | succ n ih =>
    intro w x1 H locs ls hf hR hl
    rw [fX0_findCats_L2] at hf
    refine lv_iload_n hx hb dX0_findCats_2 rfl (lv_at hl 1 rfl) ?_
    refine lv_iconst (v := 5) hx hb dX0_findCats_3 (by decide) ?_
    refine lv_icmp_ge (tgt := 20) hx hb dX0_findCats_4 (by decide) (fun c_1 => ?_) (fun c_1 => ?_)
    · have hf := qif_t hf c_1
      refine lv_iconst (v := 0) hx hb dX0_findCats_20 (by decide) ?_
      refine lv_istore_n (lv' := [(1, .int 0), (0, .ref (ad (19 * h)))]) hx hb dX0_findCats_21 rfl hl (by decide) rfl (fun ls hl => ?_)
      exact mX0_findCats_L22 hh hC hr 100 _ _ _ _ _ hf hR (lv_sub hl [1, 0] rfl)
    · have hf := qif_f hf c_1
      refine lv_aload_n hx hb dX0_findCats_7 rfl (lv_at hl 0 rfl) ?_
      refine qget_X0_10 hC hR hh qk_129 dX0_findCats_8 ?_
      refine lv_iload_n hx hb dX0_findCats_11 rfl (lv_at hl 1 rfl) ?_
      refine lv_iconst (v := 0) hx hb dX0_findCats_12 (by decide) ?_
      obtain ⟨g15, hf⟩ := qgd hf
      refine q_zst hC hR (j := (x1).toNatClampNeg) (by have := hh; omega) (fun f => qsh_hasCat G ad f hh) g15 rfl (by decide) dX0_findCats_13 (fun w16 H locs ew16 hR => ?_)
      have hf := qnm_t hf ew16
      obtain ⟨x17, ex17⟩ : ∃ y : Int32, y = x1 + 1 := ⟨_, rfl⟩
      have hf := qnm_t hf ex17
      refine lv_iinc (v := x17) (lv' := [(1, .int x17), (0, .ref (ad (19 * h)))]) hx hb dX0_findCats_14 hl (k := 1) rfl (by rw [ex17]; rfl) (by decide) rfl (fun ls hl => ?_)
      refine lv_goto (tgt := 2) hx hb dX0_findCats_17 (by decide) ?_
      exact ih _ _ _ _ _ hf hR (lv_sub hl [1, 0] rfl)
def fX0_findCats (w : qMem) (h : Nat)  : Option (qMem) :=
  fX0_findCats_L2 h 100 w 0
theorem qhd_X0_findCats : yX0_findCats.cls ≠ "java/lang/invoke/MethodHandle" ∧ yX0_findCats.cls ≠ "java/lang/invoke/VarHandle" ∧ (parseMethodDescriptor yX0_findCats.desc).map (fun d => d.parameters.length) = some 0 := ⟨by decide +kernel, by decide +kernel, by decide +kernel⟩
set_option maxHeartbeats 4000000 in
set_option maxRecDepth 100000 in
theorem mX0_findCats {l : Launch} {D : va_G} {G : Nat → ClassId} {ad : Nat → Nat} (hJ : qInj ad) {w : qMem} {h : Nat} (hh : h < 12)  {wF : qMem} (hf : fX0_findCats w h = some wF) : qCMv l D G ad yX0_findCats cX0_findCats 3 (none) 2 0 0 [.ref (ad (19 * h))] w wF := by
  refine q_start RX0 rfl (by decide +kernel) hJ (fun a b h => by simp only [qQI, qQV, qQR, qQD, qQF, h]) (Nat.le_of_ble_eq_true rfl) ?_
  intro p e s m args below meth c0 ls hC hr hR hl
  have hx := hC.1
  have hb := hC.2.1
  have hl : lv_has ls 3 [(0, .ref (ad (19 * h)))] := hl
  unfold fX0_findCats at hf
  refine lv_iconst (v := 0) hx hb dX0_findCats_0 (by decide) ?_
  refine lv_istore_n (lv' := [(1, .int 0), (0, .ref (ad (19 * h)))]) hx hb dX0_findCats_1 rfl hl (by decide) rfl (fun ls hl => ?_)
  exact mX0_findCats_L2 hh hC hr 100 _ _ _ _ _ hf hR (lv_sub hl [1, 0] rfl)
-- X0.spread
def fX0_spread_L8 (h : Nat)  : Nat → qMem → Int32 → Int32 → Option (qMem)
  | 0, _, _, _ => none
  | n + 1, w, x2, x3 =>
    if (5 : Int32) ≤ x3 then
      some w
    else
      if qin x3 5 = true then
      qnm (quw w (19 * h + 17) (x3).toNatClampNeg x2) fun (w5 : qMem) =>
      if qin x3 5 = true then
      if w5 (19 * h + 16) (x3).toNatClampNeg = 0 then
        qnm (x2 - 1) fun (x8 : Int32) =>
        if 0 ≤ x8 then
          qnm (x3 + 1) fun (x10 : Int32) =>
          fX0_spread_L8 h n w5 x8 x10
        else
          qnm (x3 + 1) fun (x11 : Int32) =>
          fX0_spread_L8 h n w5 0 x11
      else
        qnm (x2 - 2) fun (x12 : Int32) =>
        if 0 ≤ x12 then
          qnm (x3 + 1) fun (x14 : Int32) =>
          fX0_spread_L8 h n w5 x12 x14
        else
          qnm (x3 + 1) fun (x15 : Int32) =>
          fX0_spread_L8 h n w5 0 x15
      else none
      else none
set_option maxHeartbeats 4000000 in
set_option maxRecDepth 100000 in
theorem mX0_spread_L8 {p : Program} {l : Launch} {e : Env} {s : State} {m : MethodId} {args : Array Value} {below : List Frame} {meth : Method} {c0 : Code} {D : va_G} {G : Nat → ClassId} {ad : Nat → Nat} {h : Nat} (hh : h < 12) {wF : qMem}  (hC : qCx p c0 cX0_spread 4 s m args meth RX0 D G ad) (hr : meth.sig.returnType = none)  : ∀ (n : Nat), ∀ (w : qMem) (x2 : Int32) (x3 : Int32) (H : Heap) (locs : List Loc) (ls : Array Slot), fX0_spread_L8 h n w x2 x3 = some wF → qRp D G ad s w H locs → lv_has ls 4 [(0, .ref (ad (19 * h))), (2, .int x2), (3, .int x3)] → W p l e (qrm 3 0 0) s m args below meth c0 H locs 0 0 (MQ below (qQV D G ad s wF) args s 0 0 (qAdr ad s.heap.size)) (F0 m 8 ls []) := by
  have hx := hC.1
  have hb := hC.2.1
  intro n
  induction n with
  | zero => intro w x2 x3 H locs ls hf; exact nomatch (show (none : Option (qMem)) = some _ from hf)
  | succ n ih =>
    intro w x2 x3 H locs ls hf hR hl
    rw [fX0_spread_L8] at hf
    refine lv_iload_n hx hb dX0_spread_8 rfl (lv_at hl 2 rfl) ?_
    refine lv_iconst (v := 5) hx hb dX0_spread_9 (by decide) ?_
    refine lv_icmp_ge (tgt := 49) hx hb dX0_spread_10 (by decide) (fun c_3 => ?_) (fun c_3 => ?_)
    · have hf := qif_t hf c_3
      exact q_vret hC hR hr (qso hf) dX0_spread_49
    · have hf := qif_f hf c_3
      refine lv_aload_n hx hb dX0_spread_13 rfl (lv_at hl 0 rfl) ?_
      refine qget_X0_11 hC hR hh qk_130 dX0_spread_14 ?_
      refine lv_iload_n hx hb dX0_spread_17 rfl (lv_at hl 2 rfl) ?_
      refine lv_iload_n hx hb dX0_spread_18 rfl (lv_at hl 1 rfl) ?_
      obtain ⟨g4, hf⟩ := qgd hf
      refine q_ist hC hR (j := (x3).toNatClampNeg) (by have := hh; omega) (fun f => qsh_reach G ad f hh) g4 rfl dX0_spread_19 (fun w5 H locs ew5 hR => ?_)
      have hf := qnm_t hf ew5
      refine lv_iload_n hx hb dX0_spread_20 rfl (lv_at hl 1 rfl) ?_
      refine lv_aload_n hx hb dX0_spread_21 rfl (lv_at hl 0 rfl) ?_
      refine qget_X0_10 hC hR hh qk_129 dX0_spread_22 ?_
      refine lv_iload_n hx hb dX0_spread_25 rfl (lv_at hl 2 rfl) ?_
      obtain ⟨g6, hf⟩ := qgd hf
      refine q_zld hC hR (j := (x3).toNatClampNeg) (by have := hh; omega) (qsh_hasCat G ad _ hh) g6 rfl dX0_spread_26 ?_
      refine lv_if_eq (tgt := 34) hx hb dX0_spread_27 (by decide) (fun c_7 => ?_) (fun c_7 => ?_)
      · have hf := qif_t hf c_7
        refine lv_iconst (v := 1) hx hb dX0_spread_34 (by decide) ?_
        refine lv_isub hx hb dX0_spread_35 ?_
        refine lv_topi (fun x8 ex8 => ?_)
        have hf := qnm_t hf ex8
        refine lv_istore_n (lv' := [(2, .int x8), (0, .ref (ad (19 * h))), (3, .int x3)]) hx hb dX0_spread_36 rfl hl (by decide) rfl (fun ls hl => ?_)
        refine lv_iload_n hx hb dX0_spread_37 rfl (lv_at hl 0 rfl) ?_
        refine lv_if_ge (tgt := 43) hx hb dX0_spread_38 (by decide) (fun c_9 => ?_) (fun c_9 => ?_)
        · have hf := qif_t hf c_9
          obtain ⟨x10, ex10⟩ : ∃ y : Int32, y = x3 + 1 := ⟨_, rfl⟩
          have hf := qnm_t hf ex10
          refine lv_iinc (v := x10) (lv' := [(3, .int x10), (2, .int x8), (0, .ref (ad (19 * h)))]) hx hb dX0_spread_43 hl (k := 2) rfl (by rw [ex10]; rfl) (by decide) rfl (fun ls hl => ?_)
          refine lv_goto (tgt := 8) hx hb dX0_spread_46 (by decide) ?_
          exact ih _ _ _ _ _ _ hf hR (lv_sub hl [2, 1, 0] rfl)
        · have hf := qif_f hf c_9
          refine lv_iconst (v := 0) hx hb dX0_spread_41 (by decide) ?_
          refine lv_istore_n (lv' := [(2, .int 0), (0, .ref (ad (19 * h))), (3, .int x3)]) hx hb dX0_spread_42 rfl hl (by decide) rfl (fun ls hl => ?_)
          obtain ⟨x11, ex11⟩ : ∃ y : Int32, y = x3 + 1 := ⟨_, rfl⟩
          have hf := qnm_t hf ex11
          refine lv_iinc (v := x11) (lv' := [(3, .int x11), (2, .int 0), (0, .ref (ad (19 * h)))]) hx hb dX0_spread_43 hl (k := 2) rfl (by rw [ex11]; rfl) (by decide) rfl (fun ls hl => ?_)
          refine lv_goto (tgt := 8) hx hb dX0_spread_46 (by decide) ?_
          exact ih _ _ _ _ _ _ hf hR (lv_sub hl [2, 1, 0] rfl)
      · have hf := qif_f hf c_7
        refine lv_iconst (v := 2) hx hb dX0_spread_30 (by decide) ?_
        refine lv_goto (tgt := 35) hx hb dX0_spread_31 (by decide) ?_
        refine lv_isub hx hb dX0_spread_35 ?_
        refine lv_topi (fun x12 ex12 => ?_)
        have hf := qnm_t hf ex12
        refine lv_istore_n (lv' := [(2, .int x12), (0, .ref (ad (19 * h))), (3, .int x3)]) hx hb dX0_spread_36 rfl hl (by decide) rfl (fun ls hl => ?_)
        refine lv_iload_n hx hb dX0_spread_37 rfl (lv_at hl 0 rfl) ?_
        refine lv_if_ge (tgt := 43) hx hb dX0_spread_38 (by decide) (fun c_13 => ?_) (fun c_13 => ?_)
        · have hf := qif_t hf c_13
          obtain ⟨x14, ex14⟩ : ∃ y : Int32, y = x3 + 1 := ⟨_, rfl⟩
          have hf := qnm_t hf ex14
          refine lv_iinc (v := x14) (lv' := [(3, .int x14), (2, .int x12), (0, .ref (ad (19 * h)))]) hx hb dX0_spread_43 hl (k := 2) rfl (by rw [ex14]; rfl) (by decide) rfl (fun ls hl => ?_)
          refine lv_goto (tgt := 8) hx hb dX0_spread_46 (by decide) ?_
          exact ih _ _ _ _ _ _ hf hR (lv_sub hl [2, 1, 0] rfl)
        · have hf := qif_f hf c_13
          refine lv_iconst (v := 0) hx hb dX0_spread_41 (by decide) ?_
          refine lv_istore_n (lv' := [(2, .int 0), (0, .ref (ad (19 * h))), (3, .int x3)]) hx hb dX0_spread_42 rfl hl (by decide) rfl (fun ls hl => ?_)
          obtain ⟨x15, ex15⟩ : ∃ y : Int32, y = x3 + 1 := ⟨_, rfl⟩
          have hf := qnm_t hf ex15
          refine lv_iinc (v := x15) (lv' := [(3, .int x15), (2, .int 0), (0, .ref (ad (19 * h)))]) hx hb dX0_spread_43 hl (k := 2) rfl (by rw [ex15]; rfl) (by decide) rfl (fun ls hl => ?_)
          refine lv_goto (tgt := 8) hx hb dX0_spread_46 (by decide) ?_
          exact ih _ _ _ _ _ _ hf hR (lv_sub hl [2, 1, 0] rfl)
def fX0_spread (w : qMem) (h : Nat) (a1 : Int32) : Option (qMem) :=
  qbd (fX0_findCats w h) fun (w2 : qMem) =>
  fX0_spread_L8 h 100 w2 a1 0
theorem qhd_X0_spread : yX0_spread.cls ≠ "java/lang/invoke/MethodHandle" ∧ yX0_spread.cls ≠ "java/lang/invoke/VarHandle" ∧ (parseMethodDescriptor yX0_spread.desc).map (fun d => d.parameters.length) = some 1 := ⟨by decide +kernel, by decide +kernel, by decide +kernel⟩
set_option maxHeartbeats 4000000 in
set_option maxRecDepth 100000 in
theorem mX0_spread {l : Launch} {D : va_G} {G : Nat → ClassId} {ad : Nat → Nat} (hJ : qInj ad) {w : qMem} {h : Nat} (hh : h < 12) {a1 : Int32} {wF : qMem} (hf : fX0_spread w h a1 = some wF) : qCMv l D G ad yX0_spread cX0_spread 4 (none) 3 0 0 [.ref (ad (19 * h)), .int a1] w wF := by
  refine q_start RX0 rfl (by decide +kernel) hJ (fun a b h => by simp only [qQI, qQV, qQR, qQD, qQF, h]) (Nat.le_of_ble_eq_true rfl) ?_
  intro p e s m args below meth c0 ls hC hr hR hl
  have hx := hC.1
  have hb := hC.2.1
  have hl : lv_has ls 4 [(0, .ref (ad (19 * h))), (1, .int a1)] := hl
  unfold fX0_spread at hf
  refine lv_aload_n hx hb dX0_spread_0 rfl (lv_at hl 0 rfl) ?_
  obtain ⟨w2, hq1, hf⟩ := qbd_s hf
  refine q_callVv hC hR (mX0_findCats (qJ hC) hh hq1) (by have := hh; omega) (qsh_hall G ad _ hh) rfl qk_356 qk_357 qk_358 qk_20 qk_359 qhd_X0_findCats ⟨Nat.le_of_ble_eq_true rfl, Nat.le_of_ble_eq_true rfl⟩ hl.1 rfl (Nat.le_of_ble_eq_true rfl) dX0_spread_1 ⟨Nat.zero_le _, Nat.zero_le _⟩ (fun H locs hR => ?_)
  refine lv_iload_n hx hb dX0_spread_4 rfl (lv_at hl 1 rfl) ?_
  refine lv_istore_n (lv' := [(2, .int a1), (0, .ref (ad (19 * h))), (1, .int a1)]) hx hb dX0_spread_5 rfl hl (by decide) rfl (fun ls hl => ?_)
  refine lv_iconst (v := 0) hx hb dX0_spread_6 (by decide) ?_
  refine lv_istore_n (lv' := [(3, .int 0), (2, .int a1), (0, .ref (ad (19 * h))), (1, .int a1)]) hx hb dX0_spread_7 rfl hl (by decide) rfl (fun ls hl => ?_)
  exact mX0_spread_L8 hh hC hr 100 _ _ _ _ _ _ hf hR (lv_sub hl [2, 1, 0] rfl)
-- X0.reachFloorByFloor
def fX0_reachFloorByFloor (w : qMem) (h : Nat) (a1 : Int32) (a2 : Int32) : Option (Int32 × qMem) :=
  qbd (fX0_spread w h a1) fun (w2 : qMem) =>
  qbd (fX0_reachOn w2 h a2) fun (r4 : Int32) =>
  some (r4, w2)
theorem qhd_X0_reachFloorByFloor : yX0_reachFloorByFloor.cls ≠ "java/lang/invoke/MethodHandle" ∧ yX0_reachFloorByFloor.cls ≠ "java/lang/invoke/VarHandle" ∧ (parseMethodDescriptor yX0_reachFloorByFloor.desc).map (fun d => d.parameters.length) = some 2 := ⟨by decide +kernel, by decide +kernel, by decide +kernel⟩
set_option maxHeartbeats 4000000 in
set_option maxRecDepth 100000 in
theorem mX0_reachFloorByFloor {l : Launch} {D : va_G} {G : Nat → ClassId} {ad : Nat → Nat} (hJ : qInj ad) {w : qMem} {h : Nat} (hh : h < 12) {a1 : Int32} {a2 : Int32} {rF : Int32} {wF : qMem} (hf : fX0_reachFloorByFloor w h a1 a2 = some (rF, wF)) : qCMi l D G ad yX0_reachFloorByFloor cX0_reachFloorByFloor 3 (some .int) 4 0 0 [.ref (ad (19 * h)), .int a1, .int a2] w rF wF := by
  refine q_start RX0 rfl (by decide +kernel) hJ (fun a b h => by simp only [qQI, qQV, qQR, qQD, qQF, h]) (Nat.le_of_ble_eq_true rfl) ?_
  intro p e s m args below meth c0 ls hC hr hR hl
  have hx := hC.1
  have hb := hC.2.1
  have hl : lv_has ls 3 [(0, .ref (ad (19 * h))), (1, .int a1), (2, .int a2)] := hl
  unfold fX0_reachFloorByFloor at hf
  refine lv_aload_n hx hb dX0_reachFloorByFloor_0 rfl (lv_at hl 0 rfl) ?_
  refine lv_iload_n hx hb dX0_reachFloorByFloor_1 rfl (lv_at hl 1 rfl) ?_
  obtain ⟨w2, hq1, hf⟩ := qbd_s hf
  refine q_callVv hC hR (mX0_spread (qJ hC) hh hq1) (by have := hh; omega) (qsh_hall G ad _ hh) rfl qk_352 qk_353 qk_354 qk_20 qk_355 qhd_X0_spread ⟨Nat.le_of_ble_eq_true rfl, Nat.le_of_ble_eq_true rfl⟩ hl.1 rfl (Nat.le_of_ble_eq_true rfl) dX0_reachFloorByFloor_2 ⟨Nat.zero_le _, Nat.zero_le _⟩ (fun H locs hR => ?_)
  refine lv_aload_n hx hb dX0_reachFloorByFloor_5 rfl (lv_at hl 0 rfl) ?_
  refine lv_iload_n hx hb dX0_reachFloorByFloor_6 rfl (lv_at hl 2 rfl) ?_
  obtain ⟨r4, hq3, hf⟩ := qbd_s hf
  refine q_callVi hC hR (mX0_reachOn (qJ hC) hh hq3) (by have := hh; omega) (qsh_hall G ad _ hh) rfl qk_365 qk_366 qk_367 qk_20 qk_368 qhd_X0_reachOn ⟨Nat.le_of_ble_eq_true rfl, Nat.le_of_ble_eq_true rfl⟩ hl.1 rfl (Nat.le_of_ble_eq_true rfl) dX0_reachFloorByFloor_7 ⟨Nat.zero_le _, Nat.zero_le _⟩ (fun H locs hR => ?_)
  exact q_iret hC hR hr rfl (qso2 hf).1 (qso2 hf).2 dX0_reachFloorByFloor_10
-- X0.reachAgain
def fX0_reachAgain_L5 (w : qMem) (h : Nat)  : Nat → Int32 → Int32 → Int32 → Int32 → Option (Int32)
  | 0, _, _, _, _ => none
  | n + 1, x1, x2, x3, x4 =>
    if x2 ≤ x4 then
      if x1 ≤ x3 then
        some (0)
      else
        some (x1 - x3)
    else
      qbd (fX0_countOn w h 3 x4) fun (r4 : Int32) =>
      if r4 ≤ 0 then
        qnm (x4 + 1) fun (x6 : Int32) =>
        fX0_reachAgain_L5 w h n x1 x2 x3 x6
      else
        qnm (x3 + 1) fun (x7 : Int32) =>
        qnm (x4 + 1) fun (x8 : Int32) =>
        fX0_reachAgain_L5 w h n x1 x2 x7 x8
set_option maxHeartbeats 4000000 in
set_option maxRecDepth 100000 in
theorem mX0_reachAgain_L5 {p : Program} {l : Launch} {e : Env} {s : State} {m : MethodId} {args : Array Value} {below : List Frame} {meth : Method} {c0 : Code} {D : va_G} {G : Nat → ClassId} {ad : Nat → Nat} {w : qMem} {h : Nat} (hh : h < 12) {rF : Int32}  (hC : qCx p c0 cX0_reachAgain 5 s m args meth RX0 D G ad) (hr : meth.sig.returnType = some .int)  : ∀ (n : Nat), ∀ (x1 : Int32) (x2 : Int32) (x3 : Int32) (x4 : Int32) (H : Heap) (locs : List Loc) (ls : Array Slot), fX0_reachAgain_L5 w h n x1 x2 x3 x4 = some rF → qRp D G ad s w H locs → lv_has ls 5 [(0, .ref (ad (19 * h))), (1, .int x1), (2, .int x2), (3, .int x3), (4, .int x4)] → W p l e (qrm 3 0 0) s m args below meth c0 H locs 0 0 (MQ below (qQI D G ad s w rF) args s 0 0 (qAdr ad s.heap.size)) (F0 m 5 ls []) := by
  have hx := hC.1
  have hb := hC.2.1
  intro n
  induction n with
  | zero => intro x1 x2 x3 x4 H locs ls hf; exact nomatch (show (none : Option (Int32)) = some _ from hf)
  | succ n ih =>
    intro x1 x2 x3 x4 H locs ls hf hR hl
    rw [fX0_reachAgain_L5] at hf
    refine lv_iload hx hb dX0_reachAgain_5 (lv_at hl 4 rfl) ?_
    refine lv_iload_n hx hb dX0_reachAgain_7 rfl (lv_at hl 2 rfl) ?_
    refine lv_icmp_ge (tgt := 30) hx hb dX0_reachAgain_8 (by decide) (fun c_1 => ?_) (fun c_1 => ?_)
    · have hf := qif_t hf c_1
      refine lv_iload_n hx hb dX0_reachAgain_30 rfl (lv_at hl 1 rfl) ?_
      refine lv_iload_n hx hb dX0_reachAgain_31 rfl (lv_at hl 3 rfl) ?_
      refine lv_icmp_le (tgt := 41) hx hb dX0_reachAgain_32 (by decide) (fun c_2 => ?_) (fun c_2 => ?_)
      · have hf := qif_t hf c_2
        refine lv_iconst (v := 0) hx hb dX0_reachAgain_41 (by decide) ?_
        exact q_iret hC hR hr rfl (qso hf) rfl dX0_reachAgain_42
      · have hf := qif_f hf c_2
        refine lv_iload_n hx hb dX0_reachAgain_35 rfl (lv_at hl 1 rfl) ?_
        refine lv_iload_n hx hb dX0_reachAgain_36 rfl (lv_at hl 3 rfl) ?_
        refine lv_isub hx hb dX0_reachAgain_37 ?_
        refine lv_goto (tgt := 42) hx hb dX0_reachAgain_38 (by decide) ?_
        exact q_iret hC hR hr rfl (qso hf) rfl dX0_reachAgain_42
    · have hf := qif_f hf c_1
      refine lv_aload_n hx hb dX0_reachAgain_11 rfl (lv_at hl 0 rfl) ?_
      refine lv_iconst (v := 3) hx hb dX0_reachAgain_12 (by decide) ?_
      refine lv_iload hx hb dX0_reachAgain_13 (lv_at hl 4 rfl) ?_
      obtain ⟨r4, hq3, hf⟩ := qbd_s hf
      refine q_callVi hC hR (mX0_countOn (qJ hC) hh hq3) (by have := hh; omega) (qsh_hall G ad _ hh) rfl qk_677 qk_313 qk_314 qk_20 qk_315 qhd_X0_countOn ⟨Nat.le_of_ble_eq_true rfl, Nat.le_of_ble_eq_true rfl⟩ hl.1 rfl (Nat.le_of_ble_eq_true rfl) dX0_reachAgain_15 ⟨Nat.zero_le _, Nat.zero_le _⟩ (fun H locs hR => ?_)
      refine lv_if_le (tgt := 24) hx hb dX0_reachAgain_18 (by decide) (fun c_5 => ?_) (fun c_5 => ?_)
      · have hf := qif_t hf c_5
        obtain ⟨x6, ex6⟩ : ∃ y : Int32, y = x4 + 1 := ⟨_, rfl⟩
        have hf := qnm_t hf ex6
        refine lv_iinc (v := x6) (lv' := [(4, .int x6), (0, .ref (ad (19 * h))), (1, .int x1), (2, .int x2), (3, .int x3)]) hx hb dX0_reachAgain_24 hl (k := 4) rfl (by rw [ex6]; rfl) (by decide) rfl (fun ls hl => ?_)
        refine lv_goto (tgt := 5) hx hb dX0_reachAgain_27 (by decide) ?_
        exact ih _ _ _ _ _ _ _ hf hR (lv_sub hl [1, 2, 3, 4, 0] rfl)
      · have hf := qif_f hf c_5
        obtain ⟨x7, ex7⟩ : ∃ y : Int32, y = x3 + 1 := ⟨_, rfl⟩
        have hf := qnm_t hf ex7
        refine lv_iinc (v := x7) (lv' := [(3, .int x7), (0, .ref (ad (19 * h))), (1, .int x1), (2, .int x2), (4, .int x4)]) hx hb dX0_reachAgain_21 hl (k := 3) rfl (by rw [ex7]; rfl) (by decide) rfl (fun ls hl => ?_)
        obtain ⟨x8, ex8⟩ : ∃ y : Int32, y = x4 + 1 := ⟨_, rfl⟩
        have hf := qnm_t hf ex8
        refine lv_iinc (v := x8) (lv' := [(4, .int x8), (3, .int x7), (0, .ref (ad (19 * h))), (1, .int x1), (2, .int x2)]) hx hb dX0_reachAgain_24 hl (k := 4) rfl (by rw [ex8]; rfl) (by decide) rfl (fun ls hl => ?_)
        refine lv_goto (tgt := 5) hx hb dX0_reachAgain_27 (by decide) ?_
        exact ih _ _ _ _ _ _ _ hf hR (lv_sub hl [2, 3, 4, 1, 0] rfl)
def fX0_reachAgain (w : qMem) (h : Nat) (a1 : Int32) (a2 : Int32) : Option (Int32) :=
  fX0_reachAgain_L5 w h 100 a1 a2 a2 0
theorem qhd_X0_reachAgain : yX0_reachAgain.cls ≠ "java/lang/invoke/MethodHandle" ∧ yX0_reachAgain.cls ≠ "java/lang/invoke/VarHandle" ∧ (parseMethodDescriptor yX0_reachAgain.desc).map (fun d => d.parameters.length) = some 2 := ⟨by decide +kernel, by decide +kernel, by decide +kernel⟩
set_option maxHeartbeats 4000000 in
set_option maxRecDepth 100000 in
theorem mX0_reachAgain {l : Launch} {D : va_G} {G : Nat → ClassId} {ad : Nat → Nat} (hJ : qInj ad) {w : qMem} {h : Nat} (hh : h < 12) {a1 : Int32} {a2 : Int32} {rF : Int32} (hf : fX0_reachAgain w h a1 a2 = some rF) : qCMi l D G ad yX0_reachAgain cX0_reachAgain 5 (some .int) 3 0 0 [.ref (ad (19 * h)), .int a1, .int a2] w rF w := by
  refine q_start RX0 rfl (by decide +kernel) hJ (fun a b h => by simp only [qQI, qQV, qQR, qQD, qQF, h]) (Nat.le_of_ble_eq_true rfl) ?_
  intro p e s m args below meth c0 ls hC hr hR hl
  have hx := hC.1
  have hb := hC.2.1
  have hl : lv_has ls 5 [(0, .ref (ad (19 * h))), (1, .int a1), (2, .int a2)] := hl
  unfold fX0_reachAgain at hf
  refine lv_iload_n hx hb dX0_reachAgain_0 rfl (lv_at hl 2 rfl) ?_
  refine lv_istore_n (lv' := [(3, .int a2), (0, .ref (ad (19 * h))), (1, .int a1), (2, .int a2)]) hx hb dX0_reachAgain_1 rfl hl (by decide) rfl (fun ls hl => ?_)
  refine lv_iconst (v := 0) hx hb dX0_reachAgain_2 (by decide) ?_
  refine lv_istore (lv' := [(4, .int 0), (3, .int a2), (0, .ref (ad (19 * h))), (1, .int a1), (2, .int a2)]) hx hb dX0_reachAgain_3 hl (by decide) rfl (fun ls hl => ?_)
  exact mX0_reachAgain_L5 hh hC hr 100 _ _ _ _ _ _ _ hf hR (lv_sub hl [2, 3, 4, 1, 0] rfl)
-- X0.isFrightening
def fX0_isFrightening (w : qMem) (h : Nat) (a1 : Int32) : Option (Int32) :=
  qbd (fX5_isFloor w a1) fun (r2 : Int32) =>
  if r2 = 0 then
    some (0)
  else
    if qin a1 5 = true then
    if w (19 * h + 18) (a1).toNatClampNeg = 0 then
      some (0)
    else
      some (1)
    else none
theorem qhd_X0_isFrightening : yX0_isFrightening.cls ≠ "java/lang/invoke/MethodHandle" ∧ yX0_isFrightening.cls ≠ "java/lang/invoke/VarHandle" ∧ (parseMethodDescriptor yX0_isFrightening.desc).map (fun d => d.parameters.length) = some 1 := ⟨by decide +kernel, by decide +kernel, by decide +kernel⟩
set_option maxHeartbeats 4000000 in
set_option maxRecDepth 100000 in
theorem mX0_isFrightening {l : Launch} {D : va_G} {G : Nat → ClassId} {ad : Nat → Nat} (hJ : qInj ad) {w : qMem} {h : Nat} (hh : h < 12) {a1 : Int32} {rF : Int32} (hf : fX0_isFrightening w h a1 = some rF) : qCMi l D G ad yX0_isFrightening cX0_isFrightening 2 (some .boolean) 2 0 0 [.ref (ad (19 * h)), .int a1] w rF w := by
  refine q_start RX0 rfl (by decide +kernel) hJ (fun a b h => by simp only [qQI, qQV, qQR, qQD, qQF, h]) (Nat.le_of_ble_eq_true rfl) ?_
  intro p e s m args below meth c0 ls hC hr hR hl
  have hx := hC.1
  have hb := hC.2.1
  have hl : lv_has ls 2 [(0, .ref (ad (19 * h))), (1, .int a1)] := hl
  unfold fX0_isFrightening at hf
  refine lv_iload_n hx hb dX0_isFrightening_0 rfl (lv_at hl 1 rfl) ?_
  obtain ⟨r2, hq1, hf⟩ := qbd_s hf
  refine q_callSNi hC hR (mX5_isFloor (qJ hC) hq1) (qNest hC) qk_306 qk_19 qk_307 qhd_X5_isFloor ⟨Nat.le_of_ble_eq_true rfl, Nat.le_of_ble_eq_true rfl⟩ hl.1 rfl (Nat.le_of_ble_eq_true rfl) dX0_isFrightening_1 ⟨Nat.zero_le _, Nat.zero_le _⟩ (fun H locs hR => ?_)
  refine lv_if_eq (tgt := 20) hx hb dX0_isFrightening_4 (by decide) (fun c_3 => ?_) (fun c_3 => ?_)
  · have hf := qif_t hf c_3
    refine lv_iconst (v := 0) hx hb dX0_isFrightening_20 (by decide) ?_
    exact q_iret hC hR hr (by decide) (qso hf) rfl dX0_isFrightening_21
  · have hf := qif_f hf c_3
    refine lv_aload_n hx hb dX0_isFrightening_7 rfl (lv_at hl 0 rfl) ?_
    refine qget_X0_12 hC hR hh qk_131 dX0_isFrightening_8 ?_
    refine lv_iload_n hx hb dX0_isFrightening_11 rfl (lv_at hl 1 rfl) ?_
    obtain ⟨g4, hf⟩ := qgd hf
    refine q_zld hC hR (j := (a1).toNatClampNeg) (by have := hh; omega) (qsh_hasBr G ad _ hh) g4 rfl dX0_isFrightening_12 ?_
    refine lv_if_eq (tgt := 20) hx hb dX0_isFrightening_13 (by decide) (fun c_5 => ?_) (fun c_5 => ?_)
    · have hf := qif_t hf c_5
      refine lv_iconst (v := 0) hx hb dX0_isFrightening_20 (by decide) ?_
      exact q_iret hC hR hr (by decide) (qso hf) rfl dX0_isFrightening_21
    · have hf := qif_f hf c_5
      refine lv_iconst (v := 1) hx hb dX0_isFrightening_16 (by decide) ?_
      refine lv_goto (tgt := 21) hx hb dX0_isFrightening_17 (by decide) ?_
      exact q_iret hC hR hr (by decide) (qso hf) rfl dX0_isFrightening_21
-- X0.noteBreakage
def fX0_noteBreakage (w : qMem) (h : Nat) (a1 : Int32) : Option (qMem) :=
  qnm (quw w (19 * h) 9 ((w (19 * h) 9) + 1)) fun (w1 : qMem) =>
  qbd (fX5_isFloor w1 a1) fun (r3 : Int32) =>
  if r3 = 0 then
    some w1
  else
    if qin a1 5 = true then
    qnm (quw w1 (19 * h + 18) (a1).toNatClampNeg 1) fun (w6 : qMem) =>
    some w6
    else none
theorem qhd_X0_noteBreakage : yX0_noteBreakage.cls ≠ "java/lang/invoke/MethodHandle" ∧ yX0_noteBreakage.cls ≠ "java/lang/invoke/VarHandle" ∧ (parseMethodDescriptor yX0_noteBreakage.desc).map (fun d => d.parameters.length) = some 1 := ⟨by decide +kernel, by decide +kernel, by decide +kernel⟩
set_option maxHeartbeats 4000000 in
set_option maxRecDepth 100000 in
theorem mX0_noteBreakage {l : Launch} {D : va_G} {G : Nat → ClassId} {ad : Nat → Nat} (hJ : qInj ad) {w : qMem} {h : Nat} (hh : h < 12) {a1 : Int32} {wF : qMem} (hf : fX0_noteBreakage w h a1 = some wF) : qCMv l D G ad yX0_noteBreakage cX0_noteBreakage 2 (none) 2 0 0 [.ref (ad (19 * h)), .int a1] w wF := by
  refine q_start RX0 rfl (by decide +kernel) hJ (fun a b h => by simp only [qQI, qQV, qQR, qQD, qQF, h]) (Nat.le_of_ble_eq_true rfl) ?_
  intro p e s m args below meth c0 ls hC hr hR hl
  have hx := hC.1
  have hb := hC.2.1
  have hl : lv_has ls 2 [(0, .ref (ad (19 * h))), (1, .int a1)] := hl
  unfold fX0_noteBreakage at hf
  refine lv_aload_n hx hb dX0_noteBreakage_0 rfl (lv_at hl 0 rfl) ?_
  refine lv_dup hx hb dX0_noteBreakage_1 rfl ?_
  refine qget_X0_9 hC hR hh qk_127 dX0_noteBreakage_2 ?_
  refine lv_iconst (v := 1) hx hb dX0_noteBreakage_5 (by decide) ?_
  refine lv_iadd hx hb dX0_noteBreakage_6 ?_
  refine qput_X0_9 hC hR hh qk_127 ⟨rfl, rfl⟩ dX0_noteBreakage_7 (fun w1 H locs ew1 hR => ?_)
  have hf := qnm_t hf ew1
  refine lv_iload_n hx hb dX0_noteBreakage_10 rfl (lv_at hl 1 rfl) ?_
  obtain ⟨r3, hq2, hf⟩ := qbd_s hf
  refine q_callSNi hC hR (mX5_isFloor (qJ hC) hq2) (qNest hC) qk_306 qk_19 qk_307 qhd_X5_isFloor ⟨Nat.le_of_ble_eq_true rfl, Nat.le_of_ble_eq_true rfl⟩ hl.1 rfl (Nat.le_of_ble_eq_true rfl) dX0_noteBreakage_11 ⟨Nat.zero_le _, Nat.zero_le _⟩ (fun H locs hR => ?_)
  refine lv_if_eq (tgt := 24) hx hb dX0_noteBreakage_14 (by decide) (fun c_4 => ?_) (fun c_4 => ?_)
  · have hf := qif_t hf c_4
    exact q_vret hC hR hr (qso hf) dX0_noteBreakage_24
  · have hf := qif_f hf c_4
    refine lv_aload_n hx hb dX0_noteBreakage_17 rfl (lv_at hl 0 rfl) ?_
    refine qget_X0_12 hC hR hh qk_131 dX0_noteBreakage_18 ?_
    refine lv_iload_n hx hb dX0_noteBreakage_21 rfl (lv_at hl 1 rfl) ?_
    refine lv_iconst (v := 1) hx hb dX0_noteBreakage_22 (by decide) ?_
    obtain ⟨g5, hf⟩ := qgd hf
    refine q_zst hC hR (j := (a1).toNatClampNeg) (by have := hh; omega) (fun f => qsh_hasBr G ad f hh) g5 rfl (by decide) dX0_noteBreakage_23 (fun w6 H locs ew6 hR => ?_)
    have hf := qnm_t hf ew6
    exact q_vret hC hR hr (qso hf) dX0_noteBreakage_24
-- X0.shakeCups
def fX0_shakeCups_L22 (h : Nat)  : Nat → qMem → Int32 → Option (qMem)
  | 0, _, _ => none
  | n + 1, w, x1 =>
    if w (19 * h) 2 ≤ x1 then
      some w
    else
      qbd (fX0_propAt w h x1) fun (r4 : Nat) =>
      if qisPb r4 = true then
      if w r4 0 = 1 then
        qbd (fX0_reachOn w h (w r4 1)) fun (r9 : Int32) =>
        qbd2 (fX3_shakeCup w r4 r9) fun (r11 : Int32) (w12 : qMem) =>
        if r11 = 0 then
          qnm (x1 + 1) fun (x14 : Int32) =>
          fX0_shakeCups_L22 h n w12 x14
        else
          qbd (fX0_noteBreakage w12 h (w12 r4 1)) fun (w16 : qMem) =>
          qnm (x1 + 1) fun (x17 : Int32) =>
          fX0_shakeCups_L22 h n w16 x17
      else
        qnm (x1 + 1) fun (x7 : Int32) =>
        fX0_shakeCups_L22 h n w x7
      else none
set_option maxHeartbeats 4000000 in
set_option maxRecDepth 100000 in
theorem mX0_shakeCups_L22 {p : Program} {l : Launch} {e : Env} {s : State} {m : MethodId} {args : Array Value} {below : List Frame} {meth : Method} {c0 : Code} {D : va_G} {G : Nat → ClassId} {ad : Nat → Nat} {h : Nat} (hh : h < 12) {wF : qMem}  (hC : qCx p c0 cX0_shakeCups 3 s m args meth RX0 D G ad) (hr : meth.sig.returnType = none)  : ∀ (n : Nat), ∀ (w : qMem) (x1 : Int32) (H : Heap) (locs : List Loc) (ls : Array Slot), fX0_shakeCups_L22 h n w x1 = some wF → qRp D G ad s w H locs → lv_has ls 3 [(0, .ref (ad (19 * h))), (1, .int x1)] → W p l e (qrm 3 0 0) s m args below meth c0 H locs 0 0 (MQ below (qQV D G ad s wF) args s 0 0 (qAdr ad s.heap.size)) (F0 m 22 ls []) := by
  have hx := hC.1
  have hb := hC.2.1
  intro n
  induction n with
  | zero => intro w x1 H locs ls hf; exact nomatch (show (none : Option (qMem)) = some _ from hf)
  | succ n ih =>
    intro w x1 H locs ls hf hR hl
    rw [fX0_shakeCups_L22] at hf
    refine lv_iload_n hx hb dX0_shakeCups_22 rfl (lv_at hl 1 rfl) ?_
    refine lv_aload_n hx hb dX0_shakeCups_23 rfl (lv_at hl 0 rfl) ?_
    refine qget_X0_2 hC hR hh qk_113 dX0_shakeCups_24 ?_
    refine lv_icmp_ge (tgt := 73) hx hb dX0_shakeCups_27 (by decide) (fun c_2 => ?_) (fun c_2 => ?_)
    · have hf := qif_t hf c_2
      exact q_vret hC hR hr (qso hf) dX0_shakeCups_73
    · have hf := qif_f hf c_2
      refine lv_aload_n hx hb dX0_shakeCups_30 rfl (lv_at hl 0 rfl) ?_
      refine lv_iload_n hx hb dX0_shakeCups_31 rfl (lv_at hl 1 rfl) ?_
      obtain ⟨r4, hq3, hf⟩ := qbd_s hf
      obtain ⟨g5, hf⟩ := qgd hf
      refine q_callVr hC hR (mX0_propAt (qJ hC) hh hq3) (by have := hh; omega) (qsh_hall G ad _ hh) rfl qk_289 qk_290 qk_291 qk_20 qk_292 qhd_X0_propAt ⟨Nat.le_of_ble_eq_true rfl, Nat.le_of_ble_eq_true rfl⟩ hl.1 rfl (Nat.le_of_ble_eq_true rfl) dX0_shakeCups_32 ⟨Nat.zero_le _, Nat.zero_le _⟩ (fun H locs hR => ?_)
      refine lv_astore_n (lv' := [(2, .ref (ad (r4))), (0, .ref (ad (19 * h))), (1, .int x1)]) hx hb dX0_shakeCups_35 rfl hl (by decide) rfl (fun ls hl => ?_)
      refine lv_aload_n hx hb dX0_shakeCups_36 rfl (lv_at hl 0 rfl) ?_
      refine qget_X3_0 hC hR (qisPb_ok g5) qk_73 dX0_shakeCups_37 ?_
      refine lv_iconst (v := 1) hx hb dX0_shakeCups_40 (by decide) ?_
      refine lv_icmp_ne (tgt := 67) hx hb dX0_shakeCups_41 (by decide) (fun c_6 => ?_) (fun c_6 => ?_)
      · have hf := qif_f hf c_6
        obtain ⟨x7, ex7⟩ : ∃ y : Int32, y = x1 + 1 := ⟨_, rfl⟩
        have hf := qnm_t hf ex7
        refine lv_iinc (v := x7) (lv' := [(1, .int x7), (2, .ref (ad (r4))), (0, .ref (ad (19 * h)))]) hx hb dX0_shakeCups_67 hl (k := 2) rfl (by rw [ex7]; rfl) (by decide) rfl (fun ls hl => ?_)
        refine lv_goto (tgt := 22) hx hb dX0_shakeCups_70 (by decide) ?_
        exact ih _ _ _ _ _ hf hR (lv_sub hl [2, 0] rfl)
      · have hf := qif_t hf c_6
        refine lv_aload_n hx hb dX0_shakeCups_44 rfl (lv_at hl 0 rfl) ?_
        refine lv_aload_n hx hb dX0_shakeCups_45 rfl (lv_at hl 1 rfl) ?_
        refine lv_aload_n hx hb dX0_shakeCups_46 rfl (lv_at hl 0 rfl) ?_
        refine qget_X3_1 hC hR (qisPb_ok g5) qk_77 dX0_shakeCups_47 ?_
        obtain ⟨r9, hq8, hf⟩ := qbd_s hf
        refine q_callVi hC hR (mX0_reachOn (qJ hC) hh hq8) (by have := hh; omega) (qsh_hall G ad _ hh) rfl qk_365 qk_366 qk_367 qk_20 qk_368 qhd_X0_reachOn ⟨Nat.le_of_ble_eq_true rfl, Nat.le_of_ble_eq_true rfl⟩ hl.1 rfl (Nat.le_of_ble_eq_true rfl) dX0_shakeCups_50 ⟨Nat.zero_le _, Nat.zero_le _⟩ (fun H locs hR => ?_)
        obtain ⟨r11, w12, hq10, hf⟩ := qbd2_s hf
        refine q_callVi hC hR (mX3_shakeCup (qJ hC) (qisPb_ok g5) hq10) (qisP_lt (qisPb_ok g5)) (qsh_prop G ad _ (qisPb_ok g5)) rfl qk_369 qk_370 qk_371 qk_21 qk_372 qhd_X3_shakeCup ⟨Nat.le_of_ble_eq_true rfl, Nat.le_of_ble_eq_true rfl⟩ hl.1 rfl (Nat.le_of_ble_eq_true rfl) dX0_shakeCups_53 ⟨Nat.zero_le _, Nat.zero_le _⟩ (fun H locs hR => ?_)
        refine lv_if_eq (tgt := 67) hx hb dX0_shakeCups_56 (by decide) (fun c_13 => ?_) (fun c_13 => ?_)
        · have hf := qif_t hf c_13
          obtain ⟨x14, ex14⟩ : ∃ y : Int32, y = x1 + 1 := ⟨_, rfl⟩
          have hf := qnm_t hf ex14
          refine lv_iinc (v := x14) (lv' := [(1, .int x14), (2, .ref (ad (r4))), (0, .ref (ad (19 * h)))]) hx hb dX0_shakeCups_67 hl (k := 2) rfl (by rw [ex14]; rfl) (by decide) rfl (fun ls hl => ?_)
          refine lv_goto (tgt := 22) hx hb dX0_shakeCups_70 (by decide) ?_
          exact ih _ _ _ _ _ hf hR (lv_sub hl [2, 0] rfl)
        · have hf := qif_f hf c_13
          refine lv_aload_n hx hb dX0_shakeCups_59 rfl (lv_at hl 1 rfl) ?_
          refine lv_aload_n hx hb dX0_shakeCups_60 rfl (lv_at hl 0 rfl) ?_
          refine qget_X3_1 hC hR (qisPb_ok g5) qk_77 dX0_shakeCups_61 ?_
          obtain ⟨w16, hq15, hf⟩ := qbd_s hf
          refine q_callVv hC hR (mX0_noteBreakage (qJ hC) hh hq15) (by have := hh; omega) (qsh_hall G ad _ hh) rfl qk_373 qk_374 qk_375 qk_20 qk_376 qhd_X0_noteBreakage ⟨Nat.le_of_ble_eq_true rfl, Nat.le_of_ble_eq_true rfl⟩ hl.1 rfl (Nat.le_of_ble_eq_true rfl) dX0_shakeCups_64 ⟨Nat.zero_le _, Nat.zero_le _⟩ (fun H locs hR => ?_)
          obtain ⟨x17, ex17⟩ : ∃ y : Int32, y = x1 + 1 := ⟨_, rfl⟩
          have hf := qnm_t hf ex17
          refine lv_iinc (v := x17) (lv' := [(1, .int x17), (2, .ref (ad (r4))), (0, .ref (ad (19 * h)))]) hx hb dX0_shakeCups_67 hl (k := 2) rfl (by rw [ex17]; rfl) (by decide) rfl (fun ls hl => ?_)
          refine lv_goto (tgt := 22) hx hb dX0_shakeCups_70 (by decide) ?_
          exact ih _ _ _ _ _ hf hR (lv_sub hl [2, 0] rfl)
def fX0_shakeCups_L2 (h : Nat)  : Nat → qMem → Int32 → Option (qMem)
  | 0, _, _ => none
  | n + 1, w, x1 =>
    if (5 : Int32) ≤ x1 then
      fX0_shakeCups_L22 h 100 w 0
    else
      if qin x1 5 = true then
      qnm (quw w (19 * h + 18) (x1).toNatClampNeg 0) fun (w19 : qMem) =>
      qnm (x1 + 1) fun (x20 : Int32) =>
      fX0_shakeCups_L2 h n w19 x20
      else none
set_option maxHeartbeats 4000000 in
set_option maxRecDepth 100000 in
theorem mX0_shakeCups_L2 {p : Program} {l : Launch} {e : Env} {s : State} {m : MethodId} {args : Array Value} {below : List Frame} {meth : Method} {c0 : Code} {D : va_G} {G : Nat → ClassId} {ad : Nat → Nat} {h : Nat} (hh : h < 12) {wF : qMem}  (hC : qCx p c0 cX0_shakeCups 3 s m args meth RX0 D G ad) (hr : meth.sig.returnType = none)  : ∀ (n : Nat), ∀ (w : qMem) (x1 : Int32) (H : Heap) (locs : List Loc) (ls : Array Slot), fX0_shakeCups_L2 h n w x1 = some wF → qRp D G ad s w H locs → lv_has ls 3 [(0, .ref (ad (19 * h))), (1, .int x1)] → W p l e (qrm 3 0 0) s m args below meth c0 H locs 0 0 (MQ below (qQV D G ad s wF) args s 0 0 (qAdr ad s.heap.size)) (F0 m 2 ls []) := by
  have hx := hC.1
  have hb := hC.2.1
  intro n
  induction n with
  | zero => intro w x1 H locs ls hf; exact nomatch (show (none : Option (qMem)) = some _ from hf)
  | succ n ih =>
    intro w x1 H locs ls hf hR hl
    rw [fX0_shakeCups_L2] at hf
    refine lv_iload_n hx hb dX0_shakeCups_2 rfl (lv_at hl 1 rfl) ?_
    refine lv_iconst (v := 5) hx hb dX0_shakeCups_3 (by decide) ?_
    refine lv_icmp_ge (tgt := 20) hx hb dX0_shakeCups_4 (by decide) (fun c_1 => ?_) (fun c_1 => ?_)
    · have hf := qif_t hf c_1
      refine lv_iconst (v := 0) hx hb dX0_shakeCups_20 (by decide) ?_
      refine lv_istore_n (lv' := [(1, .int 0), (0, .ref (ad (19 * h)))]) hx hb dX0_shakeCups_21 rfl hl (by decide) rfl (fun ls hl => ?_)
      exact mX0_shakeCups_L22 hh hC hr 100 _ _ _ _ _ hf hR (lv_sub hl [1, 0] rfl)
    · have hf := qif_f hf c_1
      refine lv_aload_n hx hb dX0_shakeCups_7 rfl (lv_at hl 0 rfl) ?_
      refine qget_X0_12 hC hR hh qk_131 dX0_shakeCups_8 ?_
      refine lv_iload_n hx hb dX0_shakeCups_11 rfl (lv_at hl 1 rfl) ?_
      refine lv_iconst (v := 0) hx hb dX0_shakeCups_12 (by decide) ?_
      obtain ⟨g18, hf⟩ := qgd hf
      refine q_zst hC hR (j := (x1).toNatClampNeg) (by have := hh; omega) (fun f => qsh_hasBr G ad f hh) g18 rfl (by decide) dX0_shakeCups_13 (fun w19 H locs ew19 hR => ?_)
      have hf := qnm_t hf ew19
      obtain ⟨x20, ex20⟩ : ∃ y : Int32, y = x1 + 1 := ⟨_, rfl⟩
      have hf := qnm_t hf ex20
      refine lv_iinc (v := x20) (lv' := [(1, .int x20), (0, .ref (ad (19 * h)))]) hx hb dX0_shakeCups_14 hl (k := 1) rfl (by rw [ex20]; rfl) (by decide) rfl (fun ls hl => ?_)
      refine lv_goto (tgt := 2) hx hb dX0_shakeCups_17 (by decide) ?_
      exact ih _ _ _ _ _ hf hR (lv_sub hl [1, 0] rfl)
def fX0_shakeCups (w : qMem) (h : Nat)  : Option (qMem) :=
  fX0_shakeCups_L2 h 100 w 0
theorem qhd_X0_shakeCups : yX0_shakeCups.cls ≠ "java/lang/invoke/MethodHandle" ∧ yX0_shakeCups.cls ≠ "java/lang/invoke/VarHandle" ∧ (parseMethodDescriptor yX0_shakeCups.desc).map (fun d => d.parameters.length) = some 0 := ⟨by decide +kernel, by decide +kernel, by decide +kernel⟩
set_option maxHeartbeats 4000000 in
set_option maxRecDepth 100000 in
theorem mX0_shakeCups {l : Launch} {D : va_G} {G : Nat → ClassId} {ad : Nat → Nat} (hJ : qInj ad) {w : qMem} {h : Nat} (hh : h < 12)  {wF : qMem} (hf : fX0_shakeCups w h = some wF) : qCMv l D G ad yX0_shakeCups cX0_shakeCups 3 (none) 3 0 0 [.ref (ad (19 * h))] w wF := by
  refine q_start RX0 rfl (by decide +kernel) hJ (fun a b h => by simp only [qQI, qQV, qQR, qQD, qQF, h]) (Nat.le_of_ble_eq_true rfl) ?_
  intro p e s m args below meth c0 ls hC hr hR hl
  have hx := hC.1
  have hb := hC.2.1
  have hl : lv_has ls 3 [(0, .ref (ad (19 * h)))] := hl
  unfold fX0_shakeCups at hf
  refine lv_iconst (v := 0) hx hb dX0_shakeCups_0 (by decide) ?_
  refine lv_istore_n (lv' := [(1, .int 0), (0, .ref (ad (19 * h)))]) hx hb dX0_shakeCups_1 rfl hl (by decide) rfl (fun ls hl => ?_)
  exact mX0_shakeCups_L2 hh hC hr 100 _ _ _ _ _ hf hR (lv_sub hl [1, 0] rfl)
-- X0.shakeLamps
def fX0_shakeLamps_L2 (h : Nat)  : Nat → qMem → Int32 → Int32 → Option (qMem)
  | 0, _, _, _ => none
  | n + 1, w, x1, x2 =>
    if w (19 * h) 2 ≤ x2 then
      some w
    else
      qbd (fX0_propAt w h x2) fun (r3 : Nat) =>
      if qisPb r3 = true then
      if w r3 0 = 2 then
        qbd (fX0_reachOn w h (w r3 1)) fun (r8 : Int32) =>
        qbd2 (fX3_shakeLamp w r3 r8 x1) fun (r10 : Int32) (w11 : qMem) =>
        if r10 = 0 then
          qnm (x2 + 1) fun (x13 : Int32) =>
          fX0_shakeLamps_L2 h n w11 x1 x13
        else
          qbd (fX0_noteBreakage w11 h (w11 r3 1)) fun (w15 : qMem) =>
          qnm (x2 + 1) fun (x16 : Int32) =>
          fX0_shakeLamps_L2 h n w15 x1 x16
      else
        qnm (x2 + 1) fun (x6 : Int32) =>
        fX0_shakeLamps_L2 h n w x1 x6
      else none
set_option maxHeartbeats 4000000 in
set_option maxRecDepth 100000 in
theorem mX0_shakeLamps_L2 {p : Program} {l : Launch} {e : Env} {s : State} {m : MethodId} {args : Array Value} {below : List Frame} {meth : Method} {c0 : Code} {D : va_G} {G : Nat → ClassId} {ad : Nat → Nat} {h : Nat} (hh : h < 12) {wF : qMem}  (hC : qCx p c0 cX0_shakeLamps 4 s m args meth RX0 D G ad) (hr : meth.sig.returnType = none)  : ∀ (n : Nat), ∀ (w : qMem) (x1 : Int32) (x2 : Int32) (H : Heap) (locs : List Loc) (ls : Array Slot), fX0_shakeLamps_L2 h n w x1 x2 = some wF → qRp D G ad s w H locs → lv_has ls 4 [(0, .ref (ad (19 * h))), (1, .int x1), (2, .int x2)] → W p l e (qrm 3 0 0) s m args below meth c0 H locs 0 0 (MQ below (qQV D G ad s wF) args s 0 0 (qAdr ad s.heap.size)) (F0 m 2 ls []) := by
  have hx := hC.1
  have hb := hC.2.1
  intro n
  induction n with
  | zero => intro w x1 x2 H locs ls hf; exact nomatch (show (none : Option (qMem)) = some _ from hf)
  | succ n ih =>
    intro w x1 x2 H locs ls hf hR hl
    rw [fX0_shakeLamps_L2] at hf
    refine lv_iload_n hx hb dX0_shakeLamps_2 rfl (lv_at hl 2 rfl) ?_
    refine lv_aload_n hx hb dX0_shakeLamps_3 rfl (lv_at hl 0 rfl) ?_
    refine qget_X0_2 hC hR hh qk_113 dX0_shakeLamps_4 ?_
    refine lv_icmp_ge (tgt := 54) hx hb dX0_shakeLamps_7 (by decide) (fun c_1 => ?_) (fun c_1 => ?_)
    · have hf := qif_t hf c_1
      exact q_vret hC hR hr (qso hf) dX0_shakeLamps_54
    · have hf := qif_f hf c_1
      refine lv_aload_n hx hb dX0_shakeLamps_10 rfl (lv_at hl 0 rfl) ?_
      refine lv_iload_n hx hb dX0_shakeLamps_11 rfl (lv_at hl 2 rfl) ?_
      obtain ⟨r3, hq2, hf⟩ := qbd_s hf
      obtain ⟨g4, hf⟩ := qgd hf
      refine q_callVr hC hR (mX0_propAt (qJ hC) hh hq2) (by have := hh; omega) (qsh_hall G ad _ hh) rfl qk_289 qk_290 qk_291 qk_20 qk_292 qhd_X0_propAt ⟨Nat.le_of_ble_eq_true rfl, Nat.le_of_ble_eq_true rfl⟩ hl.1 rfl (Nat.le_of_ble_eq_true rfl) dX0_shakeLamps_12 ⟨Nat.zero_le _, Nat.zero_le _⟩ (fun H locs hR => ?_)
      refine lv_astore_n (lv' := [(3, .ref (ad (r3))), (0, .ref (ad (19 * h))), (1, .int x1), (2, .int x2)]) hx hb dX0_shakeLamps_15 rfl hl (by decide) rfl (fun ls hl => ?_)
      refine lv_aload_n hx hb dX0_shakeLamps_16 rfl (lv_at hl 0 rfl) ?_
      refine qget_X3_0 hC hR (qisPb_ok g4) qk_73 dX0_shakeLamps_17 ?_
      refine lv_iconst (v := 2) hx hb dX0_shakeLamps_20 (by decide) ?_
      refine lv_icmp_ne (tgt := 48) hx hb dX0_shakeLamps_21 (by decide) (fun c_5 => ?_) (fun c_5 => ?_)
      · have hf := qif_f hf c_5
        obtain ⟨x6, ex6⟩ : ∃ y : Int32, y = x2 + 1 := ⟨_, rfl⟩
        have hf := qnm_t hf ex6
        refine lv_iinc (v := x6) (lv' := [(2, .int x6), (3, .ref (ad (r3))), (0, .ref (ad (19 * h))), (1, .int x1)]) hx hb dX0_shakeLamps_48 hl (k := 3) rfl (by rw [ex6]; rfl) (by decide) rfl (fun ls hl => ?_)
        refine lv_goto (tgt := 2) hx hb dX0_shakeLamps_51 (by decide) ?_
        exact ih _ _ _ _ _ _ hf hR (lv_sub hl [2, 3, 0] rfl)
      · have hf := qif_t hf c_5
        refine lv_aload_n hx hb dX0_shakeLamps_24 rfl (lv_at hl 0 rfl) ?_
        refine lv_aload_n hx hb dX0_shakeLamps_25 rfl (lv_at hl 1 rfl) ?_
        refine lv_aload_n hx hb dX0_shakeLamps_26 rfl (lv_at hl 0 rfl) ?_
        refine qget_X3_1 hC hR (qisPb_ok g4) qk_77 dX0_shakeLamps_27 ?_
        obtain ⟨r8, hq7, hf⟩ := qbd_s hf
        refine q_callVi hC hR (mX0_reachOn (qJ hC) hh hq7) (by have := hh; omega) (qsh_hall G ad _ hh) rfl qk_365 qk_366 qk_367 qk_20 qk_368 qhd_X0_reachOn ⟨Nat.le_of_ble_eq_true rfl, Nat.le_of_ble_eq_true rfl⟩ hl.1 rfl (Nat.le_of_ble_eq_true rfl) dX0_shakeLamps_30 ⟨Nat.zero_le _, Nat.zero_le _⟩ (fun H locs hR => ?_)
        refine lv_iload_n hx hb dX0_shakeLamps_33 rfl (lv_at hl 2 rfl) ?_
        obtain ⟨r10, w11, hq9, hf⟩ := qbd2_s hf
        refine q_callVi hC hR (mX3_shakeLamp (qJ hC) (qisPb_ok g4) hq9) (qisP_lt (qisPb_ok g4)) (qsh_prop G ad _ (qisPb_ok g4)) rfl qk_381 qk_382 qk_383 qk_21 qk_384 qhd_X3_shakeLamp ⟨Nat.le_of_ble_eq_true rfl, Nat.le_of_ble_eq_true rfl⟩ hl.1 rfl (Nat.le_of_ble_eq_true rfl) dX0_shakeLamps_34 ⟨Nat.zero_le _, Nat.zero_le _⟩ (fun H locs hR => ?_)
        refine lv_if_eq (tgt := 48) hx hb dX0_shakeLamps_37 (by decide) (fun c_12 => ?_) (fun c_12 => ?_)
        · have hf := qif_t hf c_12
          obtain ⟨x13, ex13⟩ : ∃ y : Int32, y = x2 + 1 := ⟨_, rfl⟩
          have hf := qnm_t hf ex13
          refine lv_iinc (v := x13) (lv' := [(2, .int x13), (3, .ref (ad (r3))), (0, .ref (ad (19 * h))), (1, .int x1)]) hx hb dX0_shakeLamps_48 hl (k := 3) rfl (by rw [ex13]; rfl) (by decide) rfl (fun ls hl => ?_)
          refine lv_goto (tgt := 2) hx hb dX0_shakeLamps_51 (by decide) ?_
          exact ih _ _ _ _ _ _ hf hR (lv_sub hl [2, 3, 0] rfl)
        · have hf := qif_f hf c_12
          refine lv_aload_n hx hb dX0_shakeLamps_40 rfl (lv_at hl 1 rfl) ?_
          refine lv_aload_n hx hb dX0_shakeLamps_41 rfl (lv_at hl 0 rfl) ?_
          refine qget_X3_1 hC hR (qisPb_ok g4) qk_77 dX0_shakeLamps_42 ?_
          obtain ⟨w15, hq14, hf⟩ := qbd_s hf
          refine q_callVv hC hR (mX0_noteBreakage (qJ hC) hh hq14) (by have := hh; omega) (qsh_hall G ad _ hh) rfl qk_373 qk_374 qk_375 qk_20 qk_376 qhd_X0_noteBreakage ⟨Nat.le_of_ble_eq_true rfl, Nat.le_of_ble_eq_true rfl⟩ hl.1 rfl (Nat.le_of_ble_eq_true rfl) dX0_shakeLamps_45 ⟨Nat.zero_le _, Nat.zero_le _⟩ (fun H locs hR => ?_)
          obtain ⟨x16, ex16⟩ : ∃ y : Int32, y = x2 + 1 := ⟨_, rfl⟩
          have hf := qnm_t hf ex16
          refine lv_iinc (v := x16) (lv' := [(2, .int x16), (3, .ref (ad (r3))), (0, .ref (ad (19 * h))), (1, .int x1)]) hx hb dX0_shakeLamps_48 hl (k := 3) rfl (by rw [ex16]; rfl) (by decide) rfl (fun ls hl => ?_)
          refine lv_goto (tgt := 2) hx hb dX0_shakeLamps_51 (by decide) ?_
          exact ih _ _ _ _ _ _ hf hR (lv_sub hl [2, 3, 0] rfl)
def fX0_shakeLamps (w : qMem) (h : Nat) (a1 : Int32) : Option (qMem) :=
  fX0_shakeLamps_L2 h 100 w a1 0
theorem qhd_X0_shakeLamps : yX0_shakeLamps.cls ≠ "java/lang/invoke/MethodHandle" ∧ yX0_shakeLamps.cls ≠ "java/lang/invoke/VarHandle" ∧ (parseMethodDescriptor yX0_shakeLamps.desc).map (fun d => d.parameters.length) = some 1 := ⟨by decide +kernel, by decide +kernel, by decide +kernel⟩
set_option maxHeartbeats 4000000 in
set_option maxRecDepth 100000 in
theorem mX0_shakeLamps {l : Launch} {D : va_G} {G : Nat → ClassId} {ad : Nat → Nat} (hJ : qInj ad) {w : qMem} {h : Nat} (hh : h < 12) {a1 : Int32} {wF : qMem} (hf : fX0_shakeLamps w h a1 = some wF) : qCMv l D G ad yX0_shakeLamps cX0_shakeLamps 4 (none) 3 0 0 [.ref (ad (19 * h)), .int a1] w wF := by
  refine q_start RX0 rfl (by decide +kernel) hJ (fun a b h => by simp only [qQI, qQV, qQR, qQD, qQF, h]) (Nat.le_of_ble_eq_true rfl) ?_
  intro p e s m args below meth c0 ls hC hr hR hl
  have hx := hC.1
  have hb := hC.2.1
  have hl : lv_has ls 4 [(0, .ref (ad (19 * h))), (1, .int a1)] := hl
  unfold fX0_shakeLamps at hf
  refine lv_iconst (v := 0) hx hb dX0_shakeLamps_0 (by decide) ?_
  refine lv_istore_n (lv' := [(2, .int 0), (0, .ref (ad (19 * h))), (1, .int a1)]) hx hb dX0_shakeLamps_1 rfl hl (by decide) rfl (fun ls hl => ?_)
  exact mX0_shakeLamps_L2 hh hC hr 100 _ _ _ _ _ _ hf hR (lv_sub hl [1, 2, 0] rfl)
-- X0.askCats
def fX0_askCats_L4 (h : Nat)  : Nat → qMem → Int32 → Int32 → Option (Int32 × qMem)
  | 0, _, _, _ => none
  | n + 1, w, x1, x2 =>
    if w (19 * h) 2 ≤ x2 then
      some (x1, w)
    else
      qbd (fX0_propAt w h x2) fun (r3 : Nat) =>
      if qisPb r3 = true then
      if w r3 0 = 3 then
        qbd (fX0_reachOn w h (w r3 1)) fun (r8 : Int32) =>
        qbd (fX0_isFrightening w h (w r3 1)) fun (r10 : Int32) =>
        qbd2 (fX3_judge w r3 r8 r10) fun (r12 : Int32) (w13 : qMem) =>
        qnm (x1 + r12) fun (x14 : Int32) =>
        qnm (x2 + 1) fun (x15 : Int32) =>
        fX0_askCats_L4 h n w13 x14 x15
      else
        qnm (x2 + 1) fun (x6 : Int32) =>
        fX0_askCats_L4 h n w x1 x6
      else none
set_option maxHeartbeats 4000000 in
set_option maxRecDepth 100000 in
theorem mX0_askCats_L4 {p : Program} {l : Launch} {e : Env} {s : State} {m : MethodId} {args : Array Value} {below : List Frame} {meth : Method} {c0 : Code} {D : va_G} {G : Nat → ClassId} {ad : Nat → Nat} {h : Nat} (hh : h < 12) {rF : Int32} {wF : qMem}  (hC : qCx p c0 cX0_askCats 4 s m args meth RX0 D G ad) (hr : meth.sig.returnType = some .int)  : ∀ (n : Nat), ∀ (w : qMem) (x1 : Int32) (x2 : Int32) (H : Heap) (locs : List Loc) (ls : Array Slot), fX0_askCats_L4 h n w x1 x2 = some (rF, wF) → qRp D G ad s w H locs → lv_has ls 4 [(0, .ref (ad (19 * h))), (1, .int x1), (2, .int x2)] → W p l e (qrm 3 0 0) s m args below meth c0 H locs 0 0 (MQ below (qQI D G ad s wF rF) args s 0 0 (qAdr ad s.heap.size)) (F0 m 4 ls []) := by
  have hx := hC.1
  have hb := hC.2.1
  intro n
  induction n with
  | zero => intro w x1 x2 H locs ls hf; exact nomatch (show (none : Option (Int32 × qMem)) = some _ from hf)
  | succ n ih =>
    intro w x1 x2 H locs ls hf hR hl
    rw [fX0_askCats_L4] at hf
    refine lv_iload_n hx hb dX0_askCats_4 rfl (lv_at hl 2 rfl) ?_
    refine lv_aload_n hx hb dX0_askCats_5 rfl (lv_at hl 0 rfl) ?_
    refine qget_X0_2 hC hR hh qk_113 dX0_askCats_6 ?_
    refine lv_icmp_ge (tgt := 55) hx hb dX0_askCats_9 (by decide) (fun c_1 => ?_) (fun c_1 => ?_)
    · have hf := qif_t hf c_1
      refine lv_iload_n hx hb dX0_askCats_55 rfl (lv_at hl 1 rfl) ?_
      exact q_iret hC hR hr rfl (qso2 hf).1 (qso2 hf).2 dX0_askCats_56
    · have hf := qif_f hf c_1
      refine lv_aload_n hx hb dX0_askCats_12 rfl (lv_at hl 0 rfl) ?_
      refine lv_iload_n hx hb dX0_askCats_13 rfl (lv_at hl 2 rfl) ?_
      obtain ⟨r3, hq2, hf⟩ := qbd_s hf
      obtain ⟨g4, hf⟩ := qgd hf
      refine q_callVr hC hR (mX0_propAt (qJ hC) hh hq2) (by have := hh; omega) (qsh_hall G ad _ hh) rfl qk_289 qk_290 qk_291 qk_20 qk_292 qhd_X0_propAt ⟨Nat.le_of_ble_eq_true rfl, Nat.le_of_ble_eq_true rfl⟩ hl.1 rfl (Nat.le_of_ble_eq_true rfl) dX0_askCats_14 ⟨Nat.zero_le _, Nat.zero_le _⟩ (fun H locs hR => ?_)
      refine lv_astore_n (lv' := [(3, .ref (ad (r3))), (0, .ref (ad (19 * h))), (1, .int x1), (2, .int x2)]) hx hb dX0_askCats_17 rfl hl (by decide) rfl (fun ls hl => ?_)
      refine lv_aload_n hx hb dX0_askCats_18 rfl (lv_at hl 0 rfl) ?_
      refine qget_X3_0 hC hR (qisPb_ok g4) qk_73 dX0_askCats_19 ?_
      refine lv_iconst (v := 3) hx hb dX0_askCats_22 (by decide) ?_
      refine lv_icmp_ne (tgt := 49) hx hb dX0_askCats_23 (by decide) (fun c_5 => ?_) (fun c_5 => ?_)
      · have hf := qif_f hf c_5
        obtain ⟨x6, ex6⟩ : ∃ y : Int32, y = x2 + 1 := ⟨_, rfl⟩
        have hf := qnm_t hf ex6
        refine lv_iinc (v := x6) (lv' := [(2, .int x6), (3, .ref (ad (r3))), (0, .ref (ad (19 * h))), (1, .int x1)]) hx hb dX0_askCats_49 hl (k := 3) rfl (by rw [ex6]; rfl) (by decide) rfl (fun ls hl => ?_)
        refine lv_goto (tgt := 4) hx hb dX0_askCats_52 (by decide) ?_
        exact ih _ _ _ _ _ _ hf hR (lv_sub hl [2, 3, 0] rfl)
      · have hf := qif_t hf c_5
        refine lv_iload_n hx hb dX0_askCats_26 rfl (lv_at hl 2 rfl) ?_
        refine lv_aload_n hx hb dX0_askCats_27 rfl (lv_at hl 0 rfl) ?_
        refine lv_aload_n hx hb dX0_askCats_28 rfl (lv_at hl 1 rfl) ?_
        refine lv_aload_n hx hb dX0_askCats_29 rfl (lv_at hl 0 rfl) ?_
        refine qget_X3_1 hC hR (qisPb_ok g4) qk_77 dX0_askCats_30 ?_
        obtain ⟨r8, hq7, hf⟩ := qbd_s hf
        refine q_callVi hC hR (mX0_reachOn (qJ hC) hh hq7) (by have := hh; omega) (qsh_hall G ad _ hh) rfl qk_365 qk_366 qk_367 qk_20 qk_368 qhd_X0_reachOn ⟨Nat.le_of_ble_eq_true rfl, Nat.le_of_ble_eq_true rfl⟩ hl.1 rfl (Nat.le_of_ble_eq_true rfl) dX0_askCats_33 ⟨Nat.zero_le _, Nat.zero_le _⟩ (fun H locs hR => ?_)
        refine lv_aload_n hx hb dX0_askCats_36 rfl (lv_at hl 1 rfl) ?_
        refine lv_aload_n hx hb dX0_askCats_37 rfl (lv_at hl 0 rfl) ?_
        refine qget_X3_1 hC hR (qisPb_ok g4) qk_77 dX0_askCats_38 ?_
        obtain ⟨r10, hq9, hf⟩ := qbd_s hf
        refine q_callVi hC hR (mX0_isFrightening (qJ hC) hh hq9) (by have := hh; omega) (qsh_hall G ad _ hh) rfl qk_393 qk_394 qk_395 qk_20 qk_396 qhd_X0_isFrightening ⟨Nat.le_of_ble_eq_true rfl, Nat.le_of_ble_eq_true rfl⟩ hl.1 rfl (Nat.le_of_ble_eq_true rfl) dX0_askCats_41 ⟨Nat.zero_le _, Nat.zero_le _⟩ (fun H locs hR => ?_)
        obtain ⟨r12, w13, hq11, hf⟩ := qbd2_s hf
        refine q_callVi hC hR (mX3_judge (qJ hC) (qisPb_ok g4) hq11) (qisP_lt (qisPb_ok g4)) (qsh_prop G ad _ (qisPb_ok g4)) rfl qk_397 qk_398 qk_399 qk_21 qk_400 qhd_X3_judge ⟨Nat.le_of_ble_eq_true rfl, Nat.le_of_ble_eq_true rfl⟩ hl.1 rfl (Nat.le_of_ble_eq_true rfl) dX0_askCats_44 ⟨Nat.zero_le _, Nat.zero_le _⟩ (fun H locs hR => ?_)
        refine lv_iadd hx hb dX0_askCats_47 ?_
        refine lv_topi (fun x14 ex14 => ?_)
        have hf := qnm_t hf ex14
        refine lv_istore_n (lv' := [(1, .int x14), (3, .ref (ad (r3))), (0, .ref (ad (19 * h))), (2, .int x2)]) hx hb dX0_askCats_48 rfl hl (by decide) rfl (fun ls hl => ?_)
        obtain ⟨x15, ex15⟩ : ∃ y : Int32, y = x2 + 1 := ⟨_, rfl⟩
        have hf := qnm_t hf ex15
        refine lv_iinc (v := x15) (lv' := [(2, .int x15), (1, .int x14), (3, .ref (ad (r3))), (0, .ref (ad (19 * h)))]) hx hb dX0_askCats_49 hl (k := 3) rfl (by rw [ex15]; rfl) (by decide) rfl (fun ls hl => ?_)
        refine lv_goto (tgt := 4) hx hb dX0_askCats_52 (by decide) ?_
        exact ih _ _ _ _ _ _ hf hR (lv_sub hl [3, 1, 0] rfl)
def fX0_askCats (w : qMem) (h : Nat)  : Option (Int32 × qMem) :=
  fX0_askCats_L4 h 100 w 0 0
theorem qhd_X0_askCats : yX0_askCats.cls ≠ "java/lang/invoke/MethodHandle" ∧ yX0_askCats.cls ≠ "java/lang/invoke/VarHandle" ∧ (parseMethodDescriptor yX0_askCats.desc).map (fun d => d.parameters.length) = some 0 := ⟨by decide +kernel, by decide +kernel, by decide +kernel⟩
set_option maxHeartbeats 4000000 in
set_option maxRecDepth 100000 in
theorem mX0_askCats {l : Launch} {D : va_G} {G : Nat → ClassId} {ad : Nat → Nat} (hJ : qInj ad) {w : qMem} {h : Nat} (hh : h < 12)  {rF : Int32} {wF : qMem} (hf : fX0_askCats w h = some (rF, wF)) : qCMi l D G ad yX0_askCats cX0_askCats 4 (some .int) 3 0 0 [.ref (ad (19 * h))] w rF wF := by
  refine q_start RX0 rfl (by decide +kernel) hJ (fun a b h => by simp only [qQI, qQV, qQR, qQD, qQF, h]) (Nat.le_of_ble_eq_true rfl) ?_
  intro p e s m args below meth c0 ls hC hr hR hl
  have hx := hC.1
  have hb := hC.2.1
  have hl : lv_has ls 4 [(0, .ref (ad (19 * h)))] := hl
  unfold fX0_askCats at hf
  refine lv_iconst (v := 0) hx hb dX0_askCats_0 (by decide) ?_
  refine lv_istore_n (lv' := [(1, .int 0), (0, .ref (ad (19 * h)))]) hx hb dX0_askCats_1 rfl hl (by decide) rfl (fun ls hl => ?_)
  refine lv_iconst (v := 0) hx hb dX0_askCats_2 (by decide) ?_
  refine lv_istore_n (lv' := [(2, .int 0), (1, .int 0), (0, .ref (ad (19 * h)))]) hx hb dX0_askCats_3 rfl hl (by decide) rfl (fun ls hl => ?_)
  exact mX0_askCats_L4 hh hC hr 100 _ _ _ _ _ _ hf hR (lv_sub hl [2, 1, 0] rfl)
-- X0.performShock
def fX0_performShock (w : qMem) (h : Nat) (a1 : Int32) : Option (Int32 × qMem) :=
  qbd (fX0_spread w h a1) fun (w2 : qMem) =>
  qbd (fX0_shakeCups w2 h) fun (w4 : qMem) =>
  qbd (fX0_shakeLamps w4 h a1) fun (w6 : qMem) =>
  qbd2 (fX0_askCats w6 h) fun (r8 : Int32) (w9 : qMem) =>
  qnm (quw w9 (19 * h) 6 ((w9 (19 * h) 6) + 1)) fun (w10 : qMem) =>
  qnm (quw w10 (19 * h) 8 ((w10 (19 * h) 8) + r8)) fun (w11 : qMem) =>
  some (r8, w11)
theorem qhd_X0_performShock : yX0_performShock.cls ≠ "java/lang/invoke/MethodHandle" ∧ yX0_performShock.cls ≠ "java/lang/invoke/VarHandle" ∧ (parseMethodDescriptor yX0_performShock.desc).map (fun d => d.parameters.length) = some 1 := ⟨by decide +kernel, by decide +kernel, by decide +kernel⟩
set_option maxHeartbeats 4000000 in
set_option maxRecDepth 100000 in
theorem mX0_performShock {l : Launch} {D : va_G} {G : Nat → ClassId} {ad : Nat → Nat} (hJ : qInj ad) {w : qMem} {h : Nat} (hh : h < 12) {a1 : Int32} {rF : Int32} {wF : qMem} (hf : fX0_performShock w h a1 = some (rF, wF)) : qCMi l D G ad yX0_performShock cX0_performShock 3 (some .int) 4 0 0 [.ref (ad (19 * h)), .int a1] w rF wF := by
  refine q_start RX0 rfl (by decide +kernel) hJ (fun a b h => by simp only [qQI, qQV, qQR, qQD, qQF, h]) (Nat.le_of_ble_eq_true rfl) ?_
  intro p e s m args below meth c0 ls hC hr hR hl
  have hx := hC.1
  have hb := hC.2.1
  have hl : lv_has ls 3 [(0, .ref (ad (19 * h))), (1, .int a1)] := hl
  unfold fX0_performShock at hf
  refine lv_aload_n hx hb dX0_performShock_0 rfl (lv_at hl 0 rfl) ?_
  refine lv_iload_n hx hb dX0_performShock_1 rfl (lv_at hl 1 rfl) ?_
  obtain ⟨w2, hq1, hf⟩ := qbd_s hf
  refine q_callVv hC hR (mX0_spread (qJ hC) hh hq1) (by have := hh; omega) (qsh_hall G ad _ hh) rfl qk_352 qk_353 qk_354 qk_20 qk_355 qhd_X0_spread ⟨Nat.le_of_ble_eq_true rfl, Nat.le_of_ble_eq_true rfl⟩ hl.1 rfl (Nat.le_of_ble_eq_true rfl) dX0_performShock_2 ⟨Nat.zero_le _, Nat.zero_le _⟩ (fun H locs hR => ?_)
  refine lv_aload_n hx hb dX0_performShock_5 rfl (lv_at hl 0 rfl) ?_
  obtain ⟨w4, hq3, hf⟩ := qbd_s hf
  refine q_callVv hC hR (mX0_shakeCups (qJ hC) hh hq3) (by have := hh; omega) (qsh_hall G ad _ hh) rfl qk_361 qk_362 qk_363 qk_20 qk_364 qhd_X0_shakeCups ⟨Nat.le_of_ble_eq_true rfl, Nat.le_of_ble_eq_true rfl⟩ hl.1 rfl (Nat.le_of_ble_eq_true rfl) dX0_performShock_6 ⟨Nat.zero_le _, Nat.zero_le _⟩ (fun H locs hR => ?_)
  refine lv_aload_n hx hb dX0_performShock_9 rfl (lv_at hl 0 rfl) ?_
  refine lv_iload_n hx hb dX0_performShock_10 rfl (lv_at hl 1 rfl) ?_
  obtain ⟨w6, hq5, hf⟩ := qbd_s hf
  refine q_callVv hC hR (mX0_shakeLamps (qJ hC) hh hq5) (by have := hh; omega) (qsh_hall G ad _ hh) rfl qk_377 qk_378 qk_379 qk_20 qk_380 qhd_X0_shakeLamps ⟨Nat.le_of_ble_eq_true rfl, Nat.le_of_ble_eq_true rfl⟩ hl.1 rfl (Nat.le_of_ble_eq_true rfl) dX0_performShock_11 ⟨Nat.zero_le _, Nat.zero_le _⟩ (fun H locs hR => ?_)
  refine lv_aload_n hx hb dX0_performShock_14 rfl (lv_at hl 0 rfl) ?_
  obtain ⟨r8, w9, hq7, hf⟩ := qbd2_s hf
  refine q_callVi hC hR (mX0_askCats (qJ hC) hh hq7) (by have := hh; omega) (qsh_hall G ad _ hh) rfl qk_389 qk_390 qk_391 qk_20 qk_392 qhd_X0_askCats ⟨Nat.le_of_ble_eq_true rfl, Nat.le_of_ble_eq_true rfl⟩ hl.1 rfl (Nat.le_of_ble_eq_true rfl) dX0_performShock_15 ⟨Nat.zero_le _, Nat.zero_le _⟩ (fun H locs hR => ?_)
  refine lv_istore_n (lv' := [(2, .int r8), (0, .ref (ad (19 * h))), (1, .int a1)]) hx hb dX0_performShock_18 rfl hl (by decide) rfl (fun ls hl => ?_)
  refine lv_aload_n hx hb dX0_performShock_19 rfl (lv_at hl 1 rfl) ?_
  refine lv_dup hx hb dX0_performShock_20 rfl ?_
  refine qget_X0_6 hC hR hh qk_121 dX0_performShock_21 ?_
  refine lv_iconst (v := 1) hx hb dX0_performShock_24 (by decide) ?_
  refine lv_iadd hx hb dX0_performShock_25 ?_
  refine qput_X0_6 hC hR hh qk_121 ⟨rfl, rfl⟩ dX0_performShock_26 (fun w10 H locs ew10 hR => ?_)
  have hf := qnm_t hf ew10
  refine lv_aload_n hx hb dX0_performShock_29 rfl (lv_at hl 1 rfl) ?_
  refine lv_dup hx hb dX0_performShock_30 rfl ?_
  refine qget_X0_8 hC hR hh qk_125 dX0_performShock_31 ?_
  refine lv_iload_n hx hb dX0_performShock_34 rfl (lv_at hl 0 rfl) ?_
  refine lv_iadd hx hb dX0_performShock_35 ?_
  refine qput_X0_8 hC hR hh qk_125 ⟨rfl, rfl⟩ dX0_performShock_36 (fun w11 H locs ew11 hR => ?_)
  have hf := qnm_t hf ew11
  refine lv_iload_n hx hb dX0_performShock_39 rfl (lv_at hl 0 rfl) ?_
  exact q_iret hC hR hr rfl (qso2 hf).1 (qso2 hf).2 dX0_performShock_40
-- X0.performProgramme
def fX0_performProgramme_L10 (h : Nat)  : Nat → qMem → Int32 → Int32 → Int32 → Option (Int32 × qMem)
  | 0, _, _, _, _ => none
  | n + 1, w, x1, x2, x3 =>
    if w (19 * h) 4 ≤ x3 then
      qnm (quw w (19 * h) 4 0) fun (w4 : qMem) =>
      qnm (quw w4 (19 * h) 7 ((w4 (19 * h) 7) + x2)) fun (w5 : qMem) =>
      some (x2, w5)
    else
      qbd (fX0_plannedAt w h x3) fun (r7 : Int32) =>
      qnm (r7 / 2) fun (x8 : Int32) =>
      qbd (fX0_plannedAt w h x3) fun (r10 : Int32) =>
      qbd2 (fX0_performShock w h r10) fun (r12 : Int32) (w13 : qMem) =>
      if x1 ≤ 0 then
        qnm (x3 + 1) fun (x15 : Int32) =>
        fX0_performProgramme_L10 h n w13 x1 x2 x15
      else
        if r12 < 3 * x1 then
          qnm (x3 + 1) fun (x17 : Int32) =>
          fX0_performProgramme_L10 h n w13 x1 x2 x17
        else
          if x8 < 1 then
            qnm (x3 + 1) fun (x19 : Int32) =>
            fX0_performProgramme_L10 h n w13 x1 x2 x19
          else
            qbd2 (fX0_performShock w13 h x8) fun (r21 : Int32) (w22 : qMem) =>
            qnm (x2 + 1) fun (x23 : Int32) =>
            qnm (x3 + 1) fun (x24 : Int32) =>
            fX0_performProgramme_L10 h n w22 x1 x23 x24
set_option maxHeartbeats 4000000 in
set_option maxRecDepth 100000 in
theorem mX0_performProgramme_L10 {p : Program} {l : Launch} {e : Env} {s : State} {m : MethodId} {args : Array Value} {below : List Frame} {meth : Method} {c0 : Code} {D : va_G} {G : Nat → ClassId} {ad : Nat → Nat} {h : Nat} (hh : h < 12) {rF : Int32} {wF : qMem}  (hC : qCx p c0 cX0_performProgramme 6 s m args meth RX0 D G ad) (hr : meth.sig.returnType = some .int)  : ∀ (n : Nat), ∀ (w : qMem) (x1 : Int32) (x2 : Int32) (x3 : Int32) (H : Heap) (locs : List Loc) (ls : Array Slot), fX0_performProgramme_L10 h n w x1 x2 x3 = some (rF, wF) → qRp D G ad s w H locs → lv_has ls 6 [(0, .ref (ad (19 * h))), (1, .int x1), (2, .int x2), (3, .int x3)] → W p l e (qrm 5 0 0) s m args below meth c0 H locs 0 0 (MQ below (qQI D G ad s wF rF) args s 0 0 (qAdr ad s.heap.size)) (F0 m 10 ls []) := by
  have hx := hC.1
  have hb := hC.2.1
  intro n
  induction n with
  | zero => intro w x1 x2 x3 H locs ls hf; exact nomatch (show (none : Option (Int32 × qMem)) = some _ from hf)
  | succ n ih =>
    intro w x1 x2 x3 H locs ls hf hR hl
    rw [fX0_performProgramme_L10] at hf
    refine lv_iload_n hx hb dX0_performProgramme_10 rfl (lv_at hl 3 rfl) ?_
    refine lv_aload_n hx hb dX0_performProgramme_11 rfl (lv_at hl 0 rfl) ?_
    refine qget_X0_4 hC hR hh qk_116 dX0_performProgramme_12 ?_
    refine lv_icmp_ge (tgt := 72) hx hb dX0_performProgramme_15 (by decide) (fun c_3 => ?_) (fun c_3 => ?_)
    · have hf := qif_t hf c_3
      refine lv_aload_n hx hb dX0_performProgramme_72 rfl (lv_at hl 0 rfl) ?_
      refine lv_iconst (v := 0) hx hb dX0_performProgramme_73 (by decide) ?_
      refine qput_X0_4 hC hR hh qk_116 ⟨rfl, rfl⟩ dX0_performProgramme_74 (fun w4 H locs ew4 hR => ?_)
      have hf := qnm_t hf ew4
      refine lv_aload_n hx hb dX0_performProgramme_77 rfl (lv_at hl 0 rfl) ?_
      refine lv_dup hx hb dX0_performProgramme_78 rfl ?_
      refine qget_X0_7 hC hR hh qk_123 dX0_performProgramme_79 ?_
      refine lv_iload_n hx hb dX0_performProgramme_82 rfl (lv_at hl 2 rfl) ?_
      refine lv_iadd hx hb dX0_performProgramme_83 ?_
      refine qput_X0_7 hC hR hh qk_123 ⟨rfl, rfl⟩ dX0_performProgramme_84 (fun w5 H locs ew5 hR => ?_)
      have hf := qnm_t hf ew5
      refine lv_iload_n hx hb dX0_performProgramme_87 rfl (lv_at hl 2 rfl) ?_
      exact q_iret hC hR hr rfl (qso2 hf).1 (qso2 hf).2 dX0_performProgramme_88
    · have hf := qif_f hf c_3
      refine lv_aload_n hx hb dX0_performProgramme_18 rfl (lv_at hl 0 rfl) ?_
      refine lv_iload_n hx hb dX0_performProgramme_19 rfl (lv_at hl 3 rfl) ?_
      obtain ⟨r7, hq6, hf⟩ := qbd_s hf
      refine q_callVi hC hR (mX0_plannedAt (qJ hC) hh hq6) (by have := hh; omega) (qsh_hall G ad _ hh) rfl qk_420 qk_421 qk_422 qk_20 qk_423 qhd_X0_plannedAt ⟨Nat.le_of_ble_eq_true rfl, Nat.le_of_ble_eq_true rfl⟩ hl.1 rfl (Nat.le_of_ble_eq_true rfl) dX0_performProgramme_20 ⟨Nat.zero_le _, Nat.zero_le _⟩ (fun H locs hR => ?_)
      refine lv_iconst (v := 2) hx hb dX0_performProgramme_23 (by decide) ?_
      refine lv_idiv hx hb dX0_performProgramme_24 (by decide) ?_
      refine lv_topi (fun x8 ex8 => ?_)
      have hf := qnm_t hf ex8
      refine lv_istore (lv' := [(4, .int x8), (0, .ref (ad (19 * h))), (1, .int x1), (2, .int x2), (3, .int x3)]) hx hb dX0_performProgramme_25 hl (by decide) rfl (fun ls hl => ?_)
      refine lv_aload_n hx hb dX0_performProgramme_27 rfl (lv_at hl 1 rfl) ?_
      refine lv_aload_n hx hb dX0_performProgramme_28 rfl (lv_at hl 1 rfl) ?_
      refine lv_iload_n hx hb dX0_performProgramme_29 rfl (lv_at hl 4 rfl) ?_
      obtain ⟨r10, hq9, hf⟩ := qbd_s hf
      refine q_callVi hC hR (mX0_plannedAt (qJ hC) hh hq9) (by have := hh; omega) (qsh_hall G ad _ hh) rfl qk_420 qk_421 qk_422 qk_20 qk_423 qhd_X0_plannedAt ⟨Nat.le_of_ble_eq_true rfl, Nat.le_of_ble_eq_true rfl⟩ hl.1 rfl (Nat.le_of_ble_eq_true rfl) dX0_performProgramme_30 ⟨Nat.zero_le _, Nat.zero_le _⟩ (fun H locs hR => ?_)
      obtain ⟨r12, w13, hq11, hf⟩ := qbd2_s hf
      refine q_callVi hC hR (mX0_performShock (qJ hC) hh hq11) (by have := hh; omega) (qsh_hall G ad _ hh) rfl qk_424 qk_349 qk_350 qk_20 qk_351 qhd_X0_performShock ⟨Nat.le_of_ble_eq_true rfl, Nat.le_of_ble_eq_true rfl⟩ hl.1 rfl (Nat.le_of_ble_eq_true rfl) dX0_performProgramme_33 ⟨Nat.zero_le _, Nat.zero_le _⟩ (fun H locs hR => ?_)
      refine lv_istore (lv' := [(5, .int r12), (4, .int x8), (0, .ref (ad (19 * h))), (1, .int x1), (2, .int x2), (3, .int x3)]) hx hb dX0_performProgramme_36 hl (by decide) rfl (fun ls hl => ?_)
      refine lv_iload_n hx hb dX0_performProgramme_38 rfl (lv_at hl 3 rfl) ?_
      refine lv_if_le (tgt := 66) hx hb dX0_performProgramme_39 (by decide) (fun c_14 => ?_) (fun c_14 => ?_)
      · have hf := qif_t hf c_14
        obtain ⟨x15, ex15⟩ : ∃ y : Int32, y = x3 + 1 := ⟨_, rfl⟩
        have hf := qnm_t hf ex15
        refine lv_iinc (v := x15) (lv' := [(3, .int x15), (5, .int r12), (4, .int x8), (0, .ref (ad (19 * h))), (1, .int x1), (2, .int x2)]) hx hb dX0_performProgramme_66 hl (k := 5) rfl (by rw [ex15]; rfl) (by decide) rfl (fun ls hl => ?_)
        refine lv_goto (tgt := 10) hx hb dX0_performProgramme_69 (by decide) ?_
        exact ih _ _ _ _ _ _ _ hf hR (lv_sub hl [3, 4, 5, 0] rfl)
      · have hf := qif_f hf c_14
        refine lv_iload hx hb dX0_performProgramme_42 (lv_at hl 0 rfl) ?_
        refine lv_iconst (v := 3) hx hb dX0_performProgramme_44 (by decide) ?_
        refine lv_iload_n hx hb dX0_performProgramme_45 rfl (lv_at hl 3 rfl) ?_
        refine lv_imul hx hb dX0_performProgramme_46 ?_
        refine lv_icmp_lt (tgt := 66) hx hb dX0_performProgramme_47 (by decide) (fun c_16 => ?_) (fun c_16 => ?_)
        · have hf := qif_t hf c_16
          obtain ⟨x17, ex17⟩ : ∃ y : Int32, y = x3 + 1 := ⟨_, rfl⟩
          have hf := qnm_t hf ex17
          refine lv_iinc (v := x17) (lv' := [(3, .int x17), (5, .int r12), (4, .int x8), (0, .ref (ad (19 * h))), (1, .int x1), (2, .int x2)]) hx hb dX0_performProgramme_66 hl (k := 5) rfl (by rw [ex17]; rfl) (by decide) rfl (fun ls hl => ?_)
          refine lv_goto (tgt := 10) hx hb dX0_performProgramme_69 (by decide) ?_
          exact ih _ _ _ _ _ _ _ hf hR (lv_sub hl [3, 4, 5, 0] rfl)
        · have hf := qif_f hf c_16
          refine lv_iload hx hb dX0_performProgramme_50 (lv_at hl 1 rfl) ?_
          refine lv_iconst (v := 1) hx hb dX0_performProgramme_52 (by decide) ?_
          refine lv_icmp_lt (tgt := 66) hx hb dX0_performProgramme_53 (by decide) (fun c_18 => ?_) (fun c_18 => ?_)
          · have hf := qif_t hf c_18
            obtain ⟨x19, ex19⟩ : ∃ y : Int32, y = x3 + 1 := ⟨_, rfl⟩
            have hf := qnm_t hf ex19
            refine lv_iinc (v := x19) (lv' := [(3, .int x19), (5, .int r12), (4, .int x8), (0, .ref (ad (19 * h))), (1, .int x1), (2, .int x2)]) hx hb dX0_performProgramme_66 hl (k := 5) rfl (by rw [ex19]; rfl) (by decide) rfl (fun ls hl => ?_)
            refine lv_goto (tgt := 10) hx hb dX0_performProgramme_69 (by decide) ?_
            exact ih _ _ _ _ _ _ _ hf hR (lv_sub hl [3, 4, 5, 0] rfl)
          · have hf := qif_f hf c_18
            refine lv_aload_n hx hb dX0_performProgramme_56 rfl (lv_at hl 2 rfl) ?_
            refine lv_iload hx hb dX0_performProgramme_57 (lv_at hl 1 rfl) ?_
            obtain ⟨r21, w22, hq20, hf⟩ := qbd2_s hf
            refine q_callVi hC hR (mX0_performShock (qJ hC) hh hq20) (by have := hh; omega) (qsh_hall G ad _ hh) rfl qk_424 qk_349 qk_350 qk_20 qk_351 qhd_X0_performShock ⟨Nat.le_of_ble_eq_true rfl, Nat.le_of_ble_eq_true rfl⟩ hl.1 rfl (Nat.le_of_ble_eq_true rfl) dX0_performProgramme_59 ⟨Nat.zero_le _, Nat.zero_le _⟩ (fun H locs hR => ?_)
            refine lv_pop hx hb dX0_performProgramme_62 rfl ?_
            obtain ⟨x23, ex23⟩ : ∃ y : Int32, y = x2 + 1 := ⟨_, rfl⟩
            have hf := qnm_t hf ex23
            refine lv_iinc (v := x23) (lv' := [(2, .int x23), (5, .int r12), (4, .int x8), (0, .ref (ad (19 * h))), (1, .int x1), (3, .int x3)]) hx hb dX0_performProgramme_63 hl (k := 4) rfl (by rw [ex23]; rfl) (by decide) rfl (fun ls hl => ?_)
            obtain ⟨x24, ex24⟩ : ∃ y : Int32, y = x3 + 1 := ⟨_, rfl⟩
            have hf := qnm_t hf ex24
            refine lv_iinc (v := x24) (lv' := [(3, .int x24), (2, .int x23), (5, .int r12), (4, .int x8), (0, .ref (ad (19 * h))), (1, .int x1)]) hx hb dX0_performProgramme_66 hl (k := 5) rfl (by rw [ex24]; rfl) (by decide) rfl (fun ls hl => ?_)
            refine lv_goto (tgt := 10) hx hb dX0_performProgramme_69 (by decide) ?_
            exact ih _ _ _ _ _ _ _ hf hR (lv_sub hl [4, 5, 1, 0] rfl)
def fX0_performProgramme (w : qMem) (h : Nat)  : Option (Int32 × qMem) :=
  qbd (fX0_countOf w h 3) fun (r2 : Int32) =>
  fX0_performProgramme_L10 h 100 w r2 0 0
theorem qhd_X0_performProgramme : yX0_performProgramme.cls ≠ "java/lang/invoke/MethodHandle" ∧ yX0_performProgramme.cls ≠ "java/lang/invoke/VarHandle" ∧ (parseMethodDescriptor yX0_performProgramme.desc).map (fun d => d.parameters.length) = some 0 := ⟨by decide +kernel, by decide +kernel, by decide +kernel⟩
set_option maxHeartbeats 4000000 in
set_option maxRecDepth 100000 in
theorem mX0_performProgramme {l : Launch} {D : va_G} {G : Nat → ClassId} {ad : Nat → Nat} (hJ : qInj ad) {w : qMem} {h : Nat} (hh : h < 12)  {rF : Int32} {wF : qMem} (hf : fX0_performProgramme w h = some (rF, wF)) : qCMi l D G ad yX0_performProgramme cX0_performProgramme 6 (some .int) 5 0 0 [.ref (ad (19 * h))] w rF wF := by
  refine q_start RX0 rfl (by decide +kernel) hJ (fun a b h => by simp only [qQI, qQV, qQR, qQD, qQF, h]) (Nat.le_of_ble_eq_true rfl) ?_
  intro p e s m args below meth c0 ls hC hr hR hl
  have hx := hC.1
  have hb := hC.2.1
  have hl : lv_has ls 6 [(0, .ref (ad (19 * h)))] := hl
  unfold fX0_performProgramme at hf
  refine lv_aload_n hx hb dX0_performProgramme_0 rfl (lv_at hl 0 rfl) ?_
  refine lv_iconst (v := 3) hx hb dX0_performProgramme_1 (by decide) ?_
  obtain ⟨r2, hq1, hf⟩ := qbd_s hf
  refine q_callVi hC hR (mX0_countOf (qJ hC) hh hq1) (by have := hh; omega) (qsh_hall G ad _ hh) rfl qk_416 qk_417 qk_418 qk_20 qk_419 qhd_X0_countOf ⟨Nat.le_of_ble_eq_true rfl, Nat.le_of_ble_eq_true rfl⟩ hl.1 rfl (Nat.le_of_ble_eq_true rfl) dX0_performProgramme_2 ⟨Nat.zero_le _, Nat.zero_le _⟩ (fun H locs hR => ?_)
  refine lv_istore_n (lv' := [(1, .int r2), (0, .ref (ad (19 * h)))]) hx hb dX0_performProgramme_5 rfl hl (by decide) rfl (fun ls hl => ?_)
  refine lv_iconst (v := 0) hx hb dX0_performProgramme_6 (by decide) ?_
  refine lv_istore_n (lv' := [(2, .int 0), (1, .int r2), (0, .ref (ad (19 * h)))]) hx hb dX0_performProgramme_7 rfl hl (by decide) rfl (fun ls hl => ?_)
  refine lv_iconst (v := 0) hx hb dX0_performProgramme_8 (by decide) ?_
  refine lv_istore_n (lv' := [(3, .int 0), (2, .int 0), (1, .int r2), (0, .ref (ad (19 * h)))]) hx hb dX0_performProgramme_9 rfl hl (by decide) rfl (fun ls hl => ?_)
  exact mX0_performProgramme_L10 hh hC hr 100 _ _ _ _ _ _ _ hf hR (lv_sub hl [3, 2, 1, 0] rfl)
-- X0.calm
def fX0_calm_L4 (h : Nat)  : Nat → qMem → Int32 → Int32 → Option (Int32 × qMem)
  | 0, _, _, _ => none
  | n + 1, w, x1, x2 =>
    if w (19 * h) 2 ≤ x2 then
      some (x1, w)
    else
      qbd (fX0_propAt w h x2) fun (r3 : Nat) =>
      if qisPb r3 = true then
      if w r3 0 = 2 then
        if w r3 4 = 0 then
          qnm (quw w r3 3 ((w r3 3) / 2)) fun (w9 : qMem) =>
          qnm (x1 + (w9 r3 3)) fun (x10 : Int32) =>
          qnm (x2 + 1) fun (x11 : Int32) =>
          fX0_calm_L4 h n w9 x10 x11
        else
          qnm (x2 + 1) fun (x8 : Int32) =>
          fX0_calm_L4 h n w x1 x8
      else
        qnm (x2 + 1) fun (x6 : Int32) =>
        fX0_calm_L4 h n w x1 x6
      else none
set_option maxHeartbeats 4000000 in
set_option maxRecDepth 100000 in
theorem mX0_calm_L4 {p : Program} {l : Launch} {e : Env} {s : State} {m : MethodId} {args : Array Value} {below : List Frame} {meth : Method} {c0 : Code} {D : va_G} {G : Nat → ClassId} {ad : Nat → Nat} {h : Nat} (hh : h < 12) {rF : Int32} {wF : qMem}  (hC : qCx p c0 cX0_calm 4 s m args meth RX0 D G ad) (hr : meth.sig.returnType = some .int)  : ∀ (n : Nat), ∀ (w : qMem) (x1 : Int32) (x2 : Int32) (H : Heap) (locs : List Loc) (ls : Array Slot), fX0_calm_L4 h n w x1 x2 = some (rF, wF) → qRp D G ad s w H locs → lv_has ls 4 [(0, .ref (ad (19 * h))), (1, .int x1), (2, .int x2)] → W p l e (qrm 2 0 0) s m args below meth c0 H locs 0 0 (MQ below (qQI D G ad s wF rF) args s 0 0 (qAdr ad s.heap.size)) (F0 m 4 ls []) := by
  have hx := hC.1
  have hb := hC.2.1
  intro n
  induction n with
  | zero => intro w x1 x2 H locs ls hf; exact nomatch (show (none : Option (Int32 × qMem)) = some _ from hf)
  | succ n ih =>
    intro w x1 x2 H locs ls hf hR hl
    rw [fX0_calm_L4] at hf
    refine lv_iload_n hx hb dX0_calm_4 rfl (lv_at hl 2 rfl) ?_
    refine lv_aload_n hx hb dX0_calm_5 rfl (lv_at hl 0 rfl) ?_
    refine qget_X0_2 hC hR hh qk_113 dX0_calm_6 ?_
    refine lv_icmp_ge (tgt := 56) hx hb dX0_calm_9 (by decide) (fun c_1 => ?_) (fun c_1 => ?_)
    · have hf := qif_t hf c_1
      refine lv_iload_n hx hb dX0_calm_56 rfl (lv_at hl 1 rfl) ?_
      exact q_iret hC hR hr rfl (qso2 hf).1 (qso2 hf).2 dX0_calm_57
    · have hf := qif_f hf c_1
      refine lv_aload_n hx hb dX0_calm_12 rfl (lv_at hl 0 rfl) ?_
      refine lv_iload_n hx hb dX0_calm_13 rfl (lv_at hl 2 rfl) ?_
      obtain ⟨r3, hq2, hf⟩ := qbd_s hf
      obtain ⟨g4, hf⟩ := qgd hf
      refine q_callVr hC hR (mX0_propAt (qJ hC) hh hq2) (by have := hh; omega) (qsh_hall G ad _ hh) rfl qk_289 qk_290 qk_291 qk_20 qk_292 qhd_X0_propAt ⟨Nat.le_of_ble_eq_true rfl, Nat.le_of_ble_eq_true rfl⟩ hl.1 rfl (Nat.le_of_ble_eq_true rfl) dX0_calm_14 ⟨Nat.zero_le _, Nat.zero_le _⟩ (fun H locs hR => ?_)
      refine lv_astore_n (lv' := [(3, .ref (ad (r3))), (0, .ref (ad (19 * h))), (1, .int x1), (2, .int x2)]) hx hb dX0_calm_17 rfl hl (by decide) rfl (fun ls hl => ?_)
      refine lv_aload_n hx hb dX0_calm_18 rfl (lv_at hl 0 rfl) ?_
      refine qget_X3_0 hC hR (qisPb_ok g4) qk_73 dX0_calm_19 ?_
      refine lv_iconst (v := 2) hx hb dX0_calm_22 (by decide) ?_
      refine lv_icmp_ne (tgt := 50) hx hb dX0_calm_23 (by decide) (fun c_5 => ?_) (fun c_5 => ?_)
      · have hf := qif_f hf c_5
        obtain ⟨x6, ex6⟩ : ∃ y : Int32, y = x2 + 1 := ⟨_, rfl⟩
        have hf := qnm_t hf ex6
        refine lv_iinc (v := x6) (lv' := [(2, .int x6), (3, .ref (ad (r3))), (0, .ref (ad (19 * h))), (1, .int x1)]) hx hb dX0_calm_50 hl (k := 3) rfl (by rw [ex6]; rfl) (by decide) rfl (fun ls hl => ?_)
        refine lv_goto (tgt := 4) hx hb dX0_calm_53 (by decide) ?_
        exact ih _ _ _ _ _ _ hf hR (lv_sub hl [2, 3, 0] rfl)
      · have hf := qif_t hf c_5
        refine lv_aload_n hx hb dX0_calm_26 rfl (lv_at hl 0 rfl) ?_
        refine qget_X3_4 hC hR (qisPb_ok g4) qk_89 dX0_calm_27 ?_
        refine lv_if_ne (tgt := 50) hx hb dX0_calm_30 (by decide) (fun c_7 => ?_) (fun c_7 => ?_)
        · have hf := qif_f hf c_7
          obtain ⟨x8, ex8⟩ : ∃ y : Int32, y = x2 + 1 := ⟨_, rfl⟩
          have hf := qnm_t hf ex8
          refine lv_iinc (v := x8) (lv' := [(2, .int x8), (3, .ref (ad (r3))), (0, .ref (ad (19 * h))), (1, .int x1)]) hx hb dX0_calm_50 hl (k := 3) rfl (by rw [ex8]; rfl) (by decide) rfl (fun ls hl => ?_)
          refine lv_goto (tgt := 4) hx hb dX0_calm_53 (by decide) ?_
          exact ih _ _ _ _ _ _ hf hR (lv_sub hl [2, 3, 0] rfl)
        · have hf := qif_t hf c_7
          refine lv_aload_n hx hb dX0_calm_33 rfl (lv_at hl 0 rfl) ?_
          refine lv_dup hx hb dX0_calm_34 rfl ?_
          refine qget_X3_3 hC hR (qisPb_ok g4) qk_86 dX0_calm_35 ?_
          refine lv_iconst (v := 2) hx hb dX0_calm_38 (by decide) ?_
          refine lv_idiv hx hb dX0_calm_39 (by decide) ?_
          refine qput_X3_3 hC hR (qisPb_ok g4) qk_86 ⟨rfl, rfl⟩ dX0_calm_40 (fun w9 H locs ew9 hR => ?_)
          have hf := qnm_t hf ew9
          refine lv_iload_n hx hb dX0_calm_43 rfl (lv_at hl 2 rfl) ?_
          refine lv_aload_n hx hb dX0_calm_44 rfl (lv_at hl 0 rfl) ?_
          refine qget_X3_3 hC hR (qisPb_ok g4) qk_86 dX0_calm_45 ?_
          refine lv_iadd hx hb dX0_calm_48 ?_
          refine lv_topi (fun x10 ex10 => ?_)
          have hf := qnm_t hf ex10
          refine lv_istore_n (lv' := [(1, .int x10), (3, .ref (ad (r3))), (0, .ref (ad (19 * h))), (2, .int x2)]) hx hb dX0_calm_49 rfl hl (by decide) rfl (fun ls hl => ?_)
          obtain ⟨x11, ex11⟩ : ∃ y : Int32, y = x2 + 1 := ⟨_, rfl⟩
          have hf := qnm_t hf ex11
          refine lv_iinc (v := x11) (lv' := [(2, .int x11), (1, .int x10), (3, .ref (ad (r3))), (0, .ref (ad (19 * h)))]) hx hb dX0_calm_50 hl (k := 3) rfl (by rw [ex11]; rfl) (by decide) rfl (fun ls hl => ?_)
          refine lv_goto (tgt := 4) hx hb dX0_calm_53 (by decide) ?_
          exact ih _ _ _ _ _ _ hf hR (lv_sub hl [3, 1, 0] rfl)
def fX0_calm (w : qMem) (h : Nat)  : Option (Int32 × qMem) :=
  fX0_calm_L4 h 100 w 0 0
theorem qhd_X0_calm : yX0_calm.cls ≠ "java/lang/invoke/MethodHandle" ∧ yX0_calm.cls ≠ "java/lang/invoke/VarHandle" ∧ (parseMethodDescriptor yX0_calm.desc).map (fun d => d.parameters.length) = some 0 := ⟨by decide +kernel, by decide +kernel, by decide +kernel⟩
set_option maxHeartbeats 4000000 in
set_option maxRecDepth 100000 in
theorem mX0_calm {l : Launch} {D : va_G} {G : Nat → ClassId} {ad : Nat → Nat} (hJ : qInj ad) {w : qMem} {h : Nat} (hh : h < 12)  {rF : Int32} {wF : qMem} (hf : fX0_calm w h = some (rF, wF)) : qCMi l D G ad yX0_calm cX0_calm 4 (some .int) 2 0 0 [.ref (ad (19 * h))] w rF wF := by
  refine q_start RX0 rfl (by decide +kernel) hJ (fun a b h => by simp only [qQI, qQV, qQR, qQD, qQF, h]) (Nat.le_of_ble_eq_true rfl) ?_
  intro p e s m args below meth c0 ls hC hr hR hl
  have hx := hC.1
  have hb := hC.2.1
  have hl : lv_has ls 4 [(0, .ref (ad (19 * h)))] := hl
  unfold fX0_calm at hf
  refine lv_iconst (v := 0) hx hb dX0_calm_0 (by decide) ?_
  refine lv_istore_n (lv' := [(1, .int 0), (0, .ref (ad (19 * h)))]) hx hb dX0_calm_1 rfl hl (by decide) rfl (fun ls hl => ?_)
  refine lv_iconst (v := 0) hx hb dX0_calm_2 (by decide) ?_
  refine lv_istore_n (lv' := [(2, .int 0), (1, .int 0), (0, .ref (ad (19 * h)))]) hx hb dX0_calm_3 rfl hl (by decide) rfl (fun ls hl => ?_)
  exact mX0_calm_L4 hh hC hr 100 _ _ _ _ _ _ hf hR (lv_sub hl [2, 1, 0] rfl)
-- X0.breakagesPropByProp
def fX0_breakagesPropByProp_L4 (w : qMem) (h : Nat)  : Nat → Int32 → Int32 → Int32 → Option (Int32)
  | 0, _, _, _ => none
  | n + 1, x1, x2, x3 =>
    if w (19 * h) 2 ≤ x3 then
      some (x2)
    else
      qbd (fX0_propAt w h x3) fun (r3 : Nat) =>
      if qisPb r3 = true then
      qbd (fX0_reachAgain w h x1 (w r3 1)) fun (r6 : Int32) =>
      qbd (fX3_wouldBreakBy w r3 r6 x1) fun (r8 : Int32) =>
      if r8 = 0 then
        qnm (x3 + 1) fun (x10 : Int32) =>
        fX0_breakagesPropByProp_L4 w h n x1 x2 x10
      else
        qnm (x2 + 1) fun (x11 : Int32) =>
        qnm (x3 + 1) fun (x12 : Int32) =>
        fX0_breakagesPropByProp_L4 w h n x1 x11 x12
      else none
set_option maxHeartbeats 4000000 in
set_option maxRecDepth 100000 in
theorem mX0_breakagesPropByProp_L4 {p : Program} {l : Launch} {e : Env} {s : State} {m : MethodId} {args : Array Value} {below : List Frame} {meth : Method} {c0 : Code} {D : va_G} {G : Nat → ClassId} {ad : Nat → Nat} {w : qMem} {h : Nat} (hh : h < 12) {rF : Int32}  (hC : qCx p c0 cX0_breakagesPropByProp 5 s m args meth RX0 D G ad) (hr : meth.sig.returnType = some .int)  : ∀ (n : Nat), ∀ (x1 : Int32) (x2 : Int32) (x3 : Int32) (H : Heap) (locs : List Loc) (ls : Array Slot), fX0_breakagesPropByProp_L4 w h n x1 x2 x3 = some rF → qRp D G ad s w H locs → lv_has ls 5 [(0, .ref (ad (19 * h))), (1, .int x1), (2, .int x2), (3, .int x3)] → W p l e (qrm 4 0 0) s m args below meth c0 H locs 0 0 (MQ below (qQI D G ad s w rF) args s 0 0 (qAdr ad s.heap.size)) (F0 m 4 ls []) := by
  have hx := hC.1
  have hb := hC.2.1
  intro n
  induction n with
  | zero => intro x1 x2 x3 H locs ls hf; exact nomatch (show (none : Option (Int32)) = some _ from hf)
  | succ n ih =>
    intro x1 x2 x3 H locs ls hf hR hl
    rw [fX0_breakagesPropByProp_L4] at hf
    refine lv_iload_n hx hb dX0_breakagesPropByProp_4 rfl (lv_at hl 3 rfl) ?_
    refine lv_aload_n hx hb dX0_breakagesPropByProp_5 rfl (lv_at hl 0 rfl) ?_
    refine qget_X0_2 hC hR hh qk_113 dX0_breakagesPropByProp_6 ?_
    refine lv_icmp_ge (tgt := 47) hx hb dX0_breakagesPropByProp_9 (by decide) (fun c_1 => ?_) (fun c_1 => ?_)
    · have hf := qif_t hf c_1
      refine lv_iload_n hx hb dX0_breakagesPropByProp_47 rfl (lv_at hl 2 rfl) ?_
      exact q_iret hC hR hr rfl (qso hf) rfl dX0_breakagesPropByProp_48
    · have hf := qif_f hf c_1
      refine lv_aload_n hx hb dX0_breakagesPropByProp_12 rfl (lv_at hl 0 rfl) ?_
      refine lv_iload_n hx hb dX0_breakagesPropByProp_13 rfl (lv_at hl 3 rfl) ?_
      obtain ⟨r3, hq2, hf⟩ := qbd_s hf
      obtain ⟨g4, hf⟩ := qgd hf
      refine q_callVr hC hR (mX0_propAt (qJ hC) hh hq2) (by have := hh; omega) (qsh_hall G ad _ hh) rfl qk_289 qk_290 qk_291 qk_20 qk_292 qhd_X0_propAt ⟨Nat.le_of_ble_eq_true rfl, Nat.le_of_ble_eq_true rfl⟩ hl.1 rfl (Nat.le_of_ble_eq_true rfl) dX0_breakagesPropByProp_14 ⟨Nat.zero_le _, Nat.zero_le _⟩ (fun H locs hR => ?_)
      refine lv_astore (lv' := [(4, .ref (ad (r3))), (0, .ref (ad (19 * h))), (1, .int x1), (2, .int x2), (3, .int x3)]) hx hb dX0_breakagesPropByProp_17 hl (by decide) rfl (fun ls hl => ?_)
      refine lv_aload hx hb dX0_breakagesPropByProp_19 (lv_at hl 0 rfl) ?_
      refine lv_aload_n hx hb dX0_breakagesPropByProp_21 rfl (lv_at hl 1 rfl) ?_
      refine lv_iload_n hx hb dX0_breakagesPropByProp_22 rfl (lv_at hl 2 rfl) ?_
      refine lv_aload hx hb dX0_breakagesPropByProp_23 (lv_at hl 0 rfl) ?_
      refine qget_X3_1 hC hR (qisPb_ok g4) qk_77 dX0_breakagesPropByProp_25 ?_
      obtain ⟨r6, hq5, hf⟩ := qbd_s hf
      refine q_callVi hC hR (mX0_reachAgain (qJ hC) hh hq5) (by have := hh; omega) (qsh_hall G ad _ hh) rfl qk_712 qk_674 qk_675 qk_20 qk_676 qhd_X0_reachAgain ⟨Nat.le_of_ble_eq_true rfl, Nat.le_of_ble_eq_true rfl⟩ hl.1 rfl (Nat.le_of_ble_eq_true rfl) dX0_breakagesPropByProp_28 ⟨Nat.zero_le _, Nat.zero_le _⟩ (fun H locs hR => ?_)
      refine lv_iload_n hx hb dX0_breakagesPropByProp_31 rfl (lv_at hl 2 rfl) ?_
      obtain ⟨r8, hq7, hf⟩ := qbd_s hf
      refine q_callVi hC hR (mX3_wouldBreakBy (qJ hC) (qisPb_ok g4) hq7) (qisP_lt (qisPb_ok g4)) (qsh_prop G ad _ (qisPb_ok g4)) rfl qk_713 qk_714 qk_715 qk_21 qk_716 qhd_X3_wouldBreakBy ⟨Nat.le_of_ble_eq_true rfl, Nat.le_of_ble_eq_true rfl⟩ hl.1 rfl (Nat.le_of_ble_eq_true rfl) dX0_breakagesPropByProp_32 ⟨Nat.zero_le _, Nat.zero_le _⟩ (fun H locs hR => ?_)
      refine lv_if_eq (tgt := 41) hx hb dX0_breakagesPropByProp_35 (by decide) (fun c_9 => ?_) (fun c_9 => ?_)
      · have hf := qif_t hf c_9
        obtain ⟨x10, ex10⟩ : ∃ y : Int32, y = x3 + 1 := ⟨_, rfl⟩
        have hf := qnm_t hf ex10
        refine lv_iinc (v := x10) (lv' := [(3, .int x10), (4, .ref (ad (r3))), (0, .ref (ad (19 * h))), (1, .int x1), (2, .int x2)]) hx hb dX0_breakagesPropByProp_41 hl (k := 4) rfl (by rw [ex10]; rfl) (by decide) rfl (fun ls hl => ?_)
        refine lv_goto (tgt := 4) hx hb dX0_breakagesPropByProp_44 (by decide) ?_
        exact ih _ _ _ _ _ _ hf hR (lv_sub hl [2, 3, 4, 0] rfl)
      · have hf := qif_f hf c_9
        obtain ⟨x11, ex11⟩ : ∃ y : Int32, y = x2 + 1 := ⟨_, rfl⟩
        have hf := qnm_t hf ex11
        refine lv_iinc (v := x11) (lv' := [(2, .int x11), (4, .ref (ad (r3))), (0, .ref (ad (19 * h))), (1, .int x1), (3, .int x3)]) hx hb dX0_breakagesPropByProp_38 hl (k := 3) rfl (by rw [ex11]; rfl) (by decide) rfl (fun ls hl => ?_)
        obtain ⟨x12, ex12⟩ : ∃ y : Int32, y = x3 + 1 := ⟨_, rfl⟩
        have hf := qnm_t hf ex12
        refine lv_iinc (v := x12) (lv' := [(3, .int x12), (2, .int x11), (4, .ref (ad (r3))), (0, .ref (ad (19 * h))), (1, .int x1)]) hx hb dX0_breakagesPropByProp_41 hl (k := 4) rfl (by rw [ex12]; rfl) (by decide) rfl (fun ls hl => ?_)
        refine lv_goto (tgt := 4) hx hb dX0_breakagesPropByProp_44 (by decide) ?_
        exact ih _ _ _ _ _ _ hf hR (lv_sub hl [3, 4, 1, 0] rfl)
def fX0_breakagesPropByProp (w : qMem) (h : Nat) (a1 : Int32) : Option (Int32) :=
  fX0_breakagesPropByProp_L4 w h 100 a1 0 0
theorem qhd_X0_breakagesPropByProp : yX0_breakagesPropByProp.cls ≠ "java/lang/invoke/MethodHandle" ∧ yX0_breakagesPropByProp.cls ≠ "java/lang/invoke/VarHandle" ∧ (parseMethodDescriptor yX0_breakagesPropByProp.desc).map (fun d => d.parameters.length) = some 1 := ⟨by decide +kernel, by decide +kernel, by decide +kernel⟩
set_option maxHeartbeats 4000000 in
set_option maxRecDepth 100000 in
theorem mX0_breakagesPropByProp {l : Launch} {D : va_G} {G : Nat → ClassId} {ad : Nat → Nat} (hJ : qInj ad) {w : qMem} {h : Nat} (hh : h < 12) {a1 : Int32} {rF : Int32} (hf : fX0_breakagesPropByProp w h a1 = some rF) : qCMi l D G ad yX0_breakagesPropByProp cX0_breakagesPropByProp 5 (some .int) 4 0 0 [.ref (ad (19 * h)), .int a1] w rF w := by
  refine q_start RX0 rfl (by decide +kernel) hJ (fun a b h => by simp only [qQI, qQV, qQR, qQD, qQF, h]) (Nat.le_of_ble_eq_true rfl) ?_
  intro p e s m args below meth c0 ls hC hr hR hl
  have hx := hC.1
  have hb := hC.2.1
  have hl : lv_has ls 5 [(0, .ref (ad (19 * h))), (1, .int a1)] := hl
  unfold fX0_breakagesPropByProp at hf
  refine lv_iconst (v := 0) hx hb dX0_breakagesPropByProp_0 (by decide) ?_
  refine lv_istore_n (lv' := [(2, .int 0), (0, .ref (ad (19 * h))), (1, .int a1)]) hx hb dX0_breakagesPropByProp_1 rfl hl (by decide) rfl (fun ls hl => ?_)
  refine lv_iconst (v := 0) hx hb dX0_breakagesPropByProp_2 (by decide) ?_
  refine lv_istore_n (lv' := [(3, .int 0), (2, .int 0), (0, .ref (ad (19 * h))), (1, .int a1)]) hx hb dX0_breakagesPropByProp_3 rfl hl (by decide) rfl (fun ls hl => ?_)
  exact mX0_breakagesPropByProp_L4 hh hC hr 100 _ _ _ _ _ _ hf hR (lv_sub hl [2, 3, 1, 0] rfl)
-- X0.isDamageRight
def fX0_isDamageRight_L2 (w : qMem) (h : Nat)  : Nat → Int32 → Option (Int32)
  | 0, _ => none
  | n + 1, x1 =>
    if w (19 * h) 2 ≤ x1 then
      some (1)
    else
      qbd (fX0_propAt w h x1) fun (r3 : Nat) =>
      if qisPb r3 = true then
      qbd (fX3_isDamageRight w r3) fun (r6 : Int32) =>
      if r6 = 0 then
        some (0)
      else
        qnm (x1 + 1) fun (x8 : Int32) =>
        fX0_isDamageRight_L2 w h n x8
      else none
set_option maxHeartbeats 4000000 in
set_option maxRecDepth 100000 in
theorem mX0_isDamageRight_L2 {p : Program} {l : Launch} {e : Env} {s : State} {m : MethodId} {args : Array Value} {below : List Frame} {meth : Method} {c0 : Code} {D : va_G} {G : Nat → ClassId} {ad : Nat → Nat} {w : qMem} {h : Nat} (hh : h < 12) {rF : Int32}  (hC : qCx p c0 cX0_isDamageRight 2 s m args meth RX0 D G ad) (hr : meth.sig.returnType = some .boolean)  : ∀ (n : Nat), ∀ (x1 : Int32) (H : Heap) (locs : List Loc) (ls : Array Slot), fX0_isDamageRight_L2 w h n x1 = some rF → qRp D G ad s w H locs → lv_has ls 2 [(0, .ref (ad (19 * h))), (1, .int x1)] → W p l e (qrm 2 0 0) s m args below meth c0 H locs 0 0 (MQ below (qQI D G ad s w rF) args s 0 0 (qAdr ad s.heap.size)) (F0 m 2 ls []) := by
  have hx := hC.1
  have hb := hC.2.1
  intro n
  induction n with
  | zero => intro x1 H locs ls hf; exact nomatch (show (none : Option (Int32)) = some _ from hf)
  | succ n ih =>
    intro x1 H locs ls hf hR hl
    rw [fX0_isDamageRight_L2] at hf
    refine lv_iload_n hx hb dX0_isDamageRight_2 rfl (lv_at hl 1 rfl) ?_
    refine lv_aload_n hx hb dX0_isDamageRight_3 rfl (lv_at hl 0 rfl) ?_
    refine qget_X0_2 hC hR hh qk_113 dX0_isDamageRight_4 ?_
    refine lv_icmp_ge (tgt := 29) hx hb dX0_isDamageRight_7 (by decide) (fun c_1 => ?_) (fun c_1 => ?_)
    · have hf := qif_t hf c_1
      refine lv_iconst (v := 1) hx hb dX0_isDamageRight_29 (by decide) ?_
      exact q_iret hC hR hr (by decide) (qso hf) rfl dX0_isDamageRight_30
    · have hf := qif_f hf c_1
      refine lv_aload_n hx hb dX0_isDamageRight_10 rfl (lv_at hl 0 rfl) ?_
      refine lv_iload_n hx hb dX0_isDamageRight_11 rfl (lv_at hl 1 rfl) ?_
      obtain ⟨r3, hq2, hf⟩ := qbd_s hf
      obtain ⟨g4, hf⟩ := qgd hf
      refine q_callVr hC hR (mX0_propAt (qJ hC) hh hq2) (by have := hh; omega) (qsh_hall G ad _ hh) rfl qk_289 qk_290 qk_291 qk_20 qk_292 qhd_X0_propAt ⟨Nat.le_of_ble_eq_true rfl, Nat.le_of_ble_eq_true rfl⟩ hl.1 rfl (Nat.le_of_ble_eq_true rfl) dX0_isDamageRight_12 ⟨Nat.zero_le _, Nat.zero_le _⟩ (fun H locs hR => ?_)
      obtain ⟨r6, hq5, hf⟩ := qbd_s hf
      refine q_callVi hC hR (mX3_isDamageRight (qJ hC) (qisPb_ok g4) hq5) (qisP_lt (qisPb_ok g4)) (qsh_prop G ad _ (qisPb_ok g4)) rfl qk_775 qk_776 qk_777 qk_21 qk_778 qhd_X3_isDamageRight ⟨Nat.le_of_ble_eq_true rfl, Nat.le_of_ble_eq_true rfl⟩ hl.1 rfl (Nat.le_of_ble_eq_true rfl) dX0_isDamageRight_15 ⟨Nat.zero_le _, Nat.zero_le _⟩ (fun H locs hR => ?_)
      refine lv_if_ne (tgt := 23) hx hb dX0_isDamageRight_18 (by decide) (fun c_7 => ?_) (fun c_7 => ?_)
      · have hf := qif_f hf c_7
        obtain ⟨x8, ex8⟩ : ∃ y : Int32, y = x1 + 1 := ⟨_, rfl⟩
        have hf := qnm_t hf ex8
        refine lv_iinc (v := x8) (lv' := [(1, .int x8), (0, .ref (ad (19 * h)))]) hx hb dX0_isDamageRight_23 hl (k := 1) rfl (by rw [ex8]; rfl) (by decide) rfl (fun ls hl => ?_)
        refine lv_goto (tgt := 2) hx hb dX0_isDamageRight_26 (by decide) ?_
        exact ih _ _ _ _ hf hR (lv_sub hl [1, 0] rfl)
      · have hf := qif_t hf c_7
        refine lv_iconst (v := 0) hx hb dX0_isDamageRight_21 (by decide) ?_
        exact q_iret hC hR hr (by decide) (qso hf) rfl dX0_isDamageRight_22
def fX0_isDamageRight (w : qMem) (h : Nat)  : Option (Int32) :=
  fX0_isDamageRight_L2 w h 100 0
theorem qhd_X0_isDamageRight : yX0_isDamageRight.cls ≠ "java/lang/invoke/MethodHandle" ∧ yX0_isDamageRight.cls ≠ "java/lang/invoke/VarHandle" ∧ (parseMethodDescriptor yX0_isDamageRight.desc).map (fun d => d.parameters.length) = some 0 := ⟨by decide +kernel, by decide +kernel, by decide +kernel⟩
set_option maxHeartbeats 4000000 in
set_option maxRecDepth 100000 in
theorem mX0_isDamageRight {l : Launch} {D : va_G} {G : Nat → ClassId} {ad : Nat → Nat} (hJ : qInj ad) {w : qMem} {h : Nat} (hh : h < 12)  {rF : Int32} (hf : fX0_isDamageRight w h = some rF) : qCMi l D G ad yX0_isDamageRight cX0_isDamageRight 2 (some .boolean) 2 0 0 [.ref (ad (19 * h))] w rF w := by
  refine q_start RX0 rfl (by decide +kernel) hJ (fun a b h => by simp only [qQI, qQV, qQR, qQD, qQF, h]) (Nat.le_of_ble_eq_true rfl) ?_
  intro p e s m args below meth c0 ls hC hr hR hl
  have hx := hC.1
  have hb := hC.2.1
  have hl : lv_has ls 2 [(0, .ref (ad (19 * h)))] := hl
  unfold fX0_isDamageRight at hf
  refine lv_iconst (v := 0) hx hb dX0_isDamageRight_0 (by decide) ?_
  refine lv_istore_n (lv' := [(1, .int 0), (0, .ref (ad (19 * h)))]) hx hb dX0_isDamageRight_1 rfl hl (by decide) rfl (fun ls hl => ?_)
  exact mX0_isDamageRight_L2 hh hC hr 100 _ _ _ _ hf hR (lv_sub hl [1, 0] rfl)
-- X0.countAhead
def fX0_countAhead_L11 (w : qMem) (h : Nat)  : Nat → Int32 → Nat → Int32 → Int32 → Option (Int32)
  | 0, _, _, _, _ => none
  | n + 1, x1, p2, x3, x4 =>
    if w (19 * h) 2 ≤ x4 then
      some (x3)
    else
      qbd (fX0_propAt w h x4) fun (r6 : Nat) =>
      if qisPb r6 = true then
      qbd (fX3_orderTo w r6 p2) fun (r9 : Int32) =>
      if w r6 0 = w p2 0 then
        if r9 < 0 then
          qnm (x3 + 1) fun (x13 : Int32) =>
          qnm (x4 + 1) fun (x14 : Int32) =>
          fX0_countAhead_L11 w h n x1 p2 x13 x14
        else
          if r9 = 0 then
            if x1 ≤ x4 then
              qnm (x4 + 1) fun (x18 : Int32) =>
              fX0_countAhead_L11 w h n x1 p2 x3 x18
            else
              qnm (x3 + 1) fun (x19 : Int32) =>
              qnm (x4 + 1) fun (x20 : Int32) =>
              fX0_countAhead_L11 w h n x1 p2 x19 x20
          else
            qnm (x4 + 1) fun (x16 : Int32) =>
            fX0_countAhead_L11 w h n x1 p2 x3 x16
      else
        qnm (x4 + 1) fun (x11 : Int32) =>
        fX0_countAhead_L11 w h n x1 p2 x3 x11
      else none
set_option maxHeartbeats 4000000 in
set_option maxRecDepth 100000 in
theorem mX0_countAhead_L11 {p : Program} {l : Launch} {e : Env} {s : State} {m : MethodId} {args : Array Value} {below : List Frame} {meth : Method} {c0 : Code} {D : va_G} {G : Nat → ClassId} {ad : Nat → Nat} {w : qMem} {h : Nat} (hh : h < 12) {rF : Int32}  (hC : qCx p c0 cX0_countAhead 7 s m args meth RX0 D G ad) (hr : meth.sig.returnType = some .int)  : ∀ (n : Nat), ∀ (x1 : Int32) (p2 : Nat) (hp2 : qisP p2) (x3 : Int32) (x4 : Int32) (H : Heap) (locs : List Loc) (ls : Array Slot), fX0_countAhead_L11 w h n x1 p2 x3 x4 = some rF → qRp D G ad s w H locs → lv_has ls 7 [(0, .ref (ad (19 * h))), (1, .int x1), (2, .ref (ad (p2))), (3, .int x3), (4, .int x4)] → W p l e (qrm 3 0 0) s m args below meth c0 H locs 0 0 (MQ below (qQI D G ad s w rF) args s 0 0 (qAdr ad s.heap.size)) (F0 m 11 ls []) := by
  have hx := hC.1
  have hb := hC.2.1
  intro n
  induction n with
  | zero => intro x1 p2 hp2 x3 x4 H locs ls hf; exact nomatch (show (none : Option (Int32)) = some _ from hf)
  | succ n ih =>
    intro x1 p2 hp2 x3 x4 H locs ls hf hR hl
    rw [fX0_countAhead_L11] at hf
    refine lv_iload hx hb dX0_countAhead_11 (lv_at hl 4 rfl) ?_
    refine lv_aload_n hx hb dX0_countAhead_13 rfl (lv_at hl 0 rfl) ?_
    refine qget_X0_2 hC hR hh qk_113 dX0_countAhead_14 ?_
    refine lv_icmp_ge (tgt := 73) hx hb dX0_countAhead_17 (by decide) (fun c_4 => ?_) (fun c_4 => ?_)
    · have hf := qif_t hf c_4
      refine lv_iload_n hx hb dX0_countAhead_73 rfl (lv_at hl 3 rfl) ?_
      exact q_iret hC hR hr rfl (qso hf) rfl dX0_countAhead_74
    · have hf := qif_f hf c_4
      refine lv_aload_n hx hb dX0_countAhead_20 rfl (lv_at hl 0 rfl) ?_
      refine lv_iload hx hb dX0_countAhead_21 (lv_at hl 4 rfl) ?_
      obtain ⟨r6, hq5, hf⟩ := qbd_s hf
      obtain ⟨g7, hf⟩ := qgd hf
      refine q_callVr hC hR (mX0_propAt (qJ hC) hh hq5) (by have := hh; omega) (qsh_hall G ad _ hh) rfl qk_289 qk_290 qk_291 qk_20 qk_292 qhd_X0_propAt ⟨Nat.le_of_ble_eq_true rfl, Nat.le_of_ble_eq_true rfl⟩ hl.1 rfl (Nat.le_of_ble_eq_true rfl) dX0_countAhead_23 ⟨Nat.zero_le _, Nat.zero_le _⟩ (fun H locs hR => ?_)
      refine lv_astore (lv' := [(5, .ref (ad (r6))), (0, .ref (ad (19 * h))), (1, .int x1), (2, .ref (ad (p2))), (3, .int x3), (4, .int x4)]) hx hb dX0_countAhead_26 hl (by decide) rfl (fun ls hl => ?_)
      refine lv_aload hx hb dX0_countAhead_28 (lv_at hl 0 rfl) ?_
      refine lv_aload_n hx hb dX0_countAhead_30 rfl (lv_at hl 3 rfl) ?_
      obtain ⟨r9, hq8, hf⟩ := qbd_s hf
      refine q_callVi hC hR (mX3_orderTo (qJ hC) (qisPb_ok g7) hp2 hq8) (qisP_lt (qisPb_ok g7)) (qsh_prop G ad _ (qisPb_ok g7)) rfl qk_801 qk_802 qk_803 qk_21 qk_804 qhd_X3_orderTo ⟨Nat.le_of_ble_eq_true rfl, Nat.le_of_ble_eq_true rfl⟩ hl.1 rfl (Nat.le_of_ble_eq_true rfl) dX0_countAhead_31 ⟨Nat.zero_le _, Nat.zero_le _⟩ (fun H locs hR => ?_)
      refine lv_istore (lv' := [(6, .int r9), (5, .ref (ad (r6))), (0, .ref (ad (19 * h))), (1, .int x1), (2, .ref (ad (p2))), (3, .int x3), (4, .int x4)]) hx hb dX0_countAhead_34 hl (by decide) rfl (fun ls hl => ?_)
      refine lv_aload hx hb dX0_countAhead_36 (lv_at hl 1 rfl) ?_
      refine qget_X3_0 hC hR (qisPb_ok g7) qk_73 dX0_countAhead_38 ?_
      refine lv_aload_n hx hb dX0_countAhead_41 rfl (lv_at hl 4 rfl) ?_
      refine qget_X3_0 hC hR hp2 qk_73 dX0_countAhead_42 ?_
      refine lv_icmp_ne (tgt := 67) hx hb dX0_countAhead_45 (by decide) (fun c_10 => ?_) (fun c_10 => ?_)
      · have hf := qif_f hf c_10
        obtain ⟨x11, ex11⟩ : ∃ y : Int32, y = x4 + 1 := ⟨_, rfl⟩
        have hf := qnm_t hf ex11
        refine lv_iinc (v := x11) (lv' := [(4, .int x11), (6, .int r9), (5, .ref (ad (r6))), (0, .ref (ad (19 * h))), (1, .int x1), (2, .ref (ad (p2))), (3, .int x3)]) hx hb dX0_countAhead_67 hl (k := 6) rfl (by rw [ex11]; rfl) (by decide) rfl (fun ls hl => ?_)
        refine lv_goto (tgt := 11) hx hb dX0_countAhead_70 (by decide) ?_
        exact ih _ _ hp2 _ _ _ _ _ hf hR (lv_sub hl [3, 4, 5, 6, 0] rfl)
      · have hf := qif_t hf c_10
        refine lv_iload hx hb dX0_countAhead_48 (lv_at hl 0 rfl) ?_
        refine lv_if_lt (tgt := 64) hx hb dX0_countAhead_50 (by decide) (fun c_12 => ?_) (fun c_12 => ?_)
        · have hf := qif_t hf c_12
          obtain ⟨x13, ex13⟩ : ∃ y : Int32, y = x3 + 1 := ⟨_, rfl⟩
          have hf := qnm_t hf ex13
          refine lv_iinc (v := x13) (lv' := [(3, .int x13), (6, .int r9), (5, .ref (ad (r6))), (0, .ref (ad (19 * h))), (1, .int x1), (2, .ref (ad (p2))), (4, .int x4)]) hx hb dX0_countAhead_64 hl (k := 5) rfl (by rw [ex13]; rfl) (by decide) rfl (fun ls hl => ?_)
          obtain ⟨x14, ex14⟩ : ∃ y : Int32, y = x4 + 1 := ⟨_, rfl⟩
          have hf := qnm_t hf ex14
          refine lv_iinc (v := x14) (lv' := [(4, .int x14), (3, .int x13), (6, .int r9), (5, .ref (ad (r6))), (0, .ref (ad (19 * h))), (1, .int x1), (2, .ref (ad (p2)))]) hx hb dX0_countAhead_67 hl (k := 6) rfl (by rw [ex14]; rfl) (by decide) rfl (fun ls hl => ?_)
          refine lv_goto (tgt := 11) hx hb dX0_countAhead_70 (by decide) ?_
          exact ih _ _ hp2 _ _ _ _ _ hf hR (lv_sub hl [4, 5, 6, 1, 0] rfl)
        · have hf := qif_f hf c_12
          refine lv_iload hx hb dX0_countAhead_53 (lv_at hl 0 rfl) ?_
          refine lv_if_ne (tgt := 67) hx hb dX0_countAhead_55 (by decide) (fun c_15 => ?_) (fun c_15 => ?_)
          · have hf := qif_f hf c_15
            obtain ⟨x16, ex16⟩ : ∃ y : Int32, y = x4 + 1 := ⟨_, rfl⟩
            have hf := qnm_t hf ex16
            refine lv_iinc (v := x16) (lv' := [(4, .int x16), (6, .int r9), (5, .ref (ad (r6))), (0, .ref (ad (19 * h))), (1, .int x1), (2, .ref (ad (p2))), (3, .int x3)]) hx hb dX0_countAhead_67 hl (k := 6) rfl (by rw [ex16]; rfl) (by decide) rfl (fun ls hl => ?_)
            refine lv_goto (tgt := 11) hx hb dX0_countAhead_70 (by decide) ?_
            exact ih _ _ hp2 _ _ _ _ _ hf hR (lv_sub hl [3, 4, 5, 6, 0] rfl)
          · have hf := qif_t hf c_15
            refine lv_iload hx hb dX0_countAhead_58 (lv_at hl 6 rfl) ?_
            refine lv_iload_n hx hb dX0_countAhead_60 rfl (lv_at hl 3 rfl) ?_
            refine lv_icmp_ge (tgt := 67) hx hb dX0_countAhead_61 (by decide) (fun c_17 => ?_) (fun c_17 => ?_)
            · have hf := qif_t hf c_17
              obtain ⟨x18, ex18⟩ : ∃ y : Int32, y = x4 + 1 := ⟨_, rfl⟩
              have hf := qnm_t hf ex18
              refine lv_iinc (v := x18) (lv' := [(4, .int x18), (6, .int r9), (5, .ref (ad (r6))), (0, .ref (ad (19 * h))), (1, .int x1), (2, .ref (ad (p2))), (3, .int x3)]) hx hb dX0_countAhead_67 hl (k := 6) rfl (by rw [ex18]; rfl) (by decide) rfl (fun ls hl => ?_)
              refine lv_goto (tgt := 11) hx hb dX0_countAhead_70 (by decide) ?_
              exact ih _ _ hp2 _ _ _ _ _ hf hR (lv_sub hl [3, 4, 5, 6, 0] rfl)
            · have hf := qif_f hf c_17
              obtain ⟨x19, ex19⟩ : ∃ y : Int32, y = x3 + 1 := ⟨_, rfl⟩
              have hf := qnm_t hf ex19
              refine lv_iinc (v := x19) (lv' := [(3, .int x19), (6, .int r9), (5, .ref (ad (r6))), (0, .ref (ad (19 * h))), (1, .int x1), (2, .ref (ad (p2))), (4, .int x4)]) hx hb dX0_countAhead_64 hl (k := 5) rfl (by rw [ex19]; rfl) (by decide) rfl (fun ls hl => ?_)
              obtain ⟨x20, ex20⟩ : ∃ y : Int32, y = x4 + 1 := ⟨_, rfl⟩
              have hf := qnm_t hf ex20
              refine lv_iinc (v := x20) (lv' := [(4, .int x20), (3, .int x19), (6, .int r9), (5, .ref (ad (r6))), (0, .ref (ad (19 * h))), (1, .int x1), (2, .ref (ad (p2)))]) hx hb dX0_countAhead_67 hl (k := 6) rfl (by rw [ex20]; rfl) (by decide) rfl (fun ls hl => ?_)
              refine lv_goto (tgt := 11) hx hb dX0_countAhead_70 (by decide) ?_
              exact ih _ _ hp2 _ _ _ _ _ hf hR (lv_sub hl [4, 5, 6, 1, 0] rfl)
def fX0_countAhead (w : qMem) (h : Nat) (a1 : Int32) : Option (Int32) :=
  qbd (fX0_propAt w h a1) fun (r2 : Nat) =>
  if qisPb r2 = true then
  fX0_countAhead_L11 w h 100 a1 r2 0 0
  else none
theorem qhd_X0_countAhead : yX0_countAhead.cls ≠ "java/lang/invoke/MethodHandle" ∧ yX0_countAhead.cls ≠ "java/lang/invoke/VarHandle" ∧ (parseMethodDescriptor yX0_countAhead.desc).map (fun d => d.parameters.length) = some 1 := ⟨by decide +kernel, by decide +kernel, by decide +kernel⟩
set_option maxHeartbeats 4000000 in
set_option maxRecDepth 100000 in
theorem mX0_countAhead {l : Launch} {D : va_G} {G : Nat → ClassId} {ad : Nat → Nat} (hJ : qInj ad) {w : qMem} {h : Nat} (hh : h < 12) {a1 : Int32} {rF : Int32} (hf : fX0_countAhead w h a1 = some rF) : qCMi l D G ad yX0_countAhead cX0_countAhead 7 (some .int) 3 0 0 [.ref (ad (19 * h)), .int a1] w rF w := by
  refine q_start RX0 rfl (by decide +kernel) hJ (fun a b h => by simp only [qQI, qQV, qQR, qQD, qQF, h]) (Nat.le_of_ble_eq_true rfl) ?_
  intro p e s m args below meth c0 ls hC hr hR hl
  have hx := hC.1
  have hb := hC.2.1
  have hl : lv_has ls 7 [(0, .ref (ad (19 * h))), (1, .int a1)] := hl
  unfold fX0_countAhead at hf
  refine lv_aload_n hx hb dX0_countAhead_0 rfl (lv_at hl 0 rfl) ?_
  refine lv_iload_n hx hb dX0_countAhead_1 rfl (lv_at hl 1 rfl) ?_
  obtain ⟨r2, hq1, hf⟩ := qbd_s hf
  obtain ⟨g3, hf⟩ := qgd hf
  refine q_callVr hC hR (mX0_propAt (qJ hC) hh hq1) (by have := hh; omega) (qsh_hall G ad _ hh) rfl qk_289 qk_290 qk_291 qk_20 qk_292 qhd_X0_propAt ⟨Nat.le_of_ble_eq_true rfl, Nat.le_of_ble_eq_true rfl⟩ hl.1 rfl (Nat.le_of_ble_eq_true rfl) dX0_countAhead_2 ⟨Nat.zero_le _, Nat.zero_le _⟩ (fun H locs hR => ?_)
  refine lv_astore_n (lv' := [(2, .ref (ad (r2))), (0, .ref (ad (19 * h))), (1, .int a1)]) hx hb dX0_countAhead_5 rfl hl (by decide) rfl (fun ls hl => ?_)
  refine lv_iconst (v := 0) hx hb dX0_countAhead_6 (by decide) ?_
  refine lv_istore_n (lv' := [(3, .int 0), (2, .ref (ad (r2))), (0, .ref (ad (19 * h))), (1, .int a1)]) hx hb dX0_countAhead_7 rfl hl (by decide) rfl (fun ls hl => ?_)
  refine lv_iconst (v := 0) hx hb dX0_countAhead_8 (by decide) ?_
  refine lv_istore (lv' := [(4, .int 0), (3, .int 0), (2, .ref (ad (r2))), (0, .ref (ad (19 * h))), (1, .int a1)]) hx hb dX0_countAhead_9 hl (by decide) rfl (fun ls hl => ?_)
  exact mX0_countAhead_L11 hh hC hr 100 _ _ (qisPb_ok g3) _ _ _ _ _ hf hR (lv_sub hl [3, 4, 2, 1, 0] rfl)
-- X0.numberInOrder
def fX0_numberInOrder_L2 (w : qMem) (h : Nat)  : Nat → Int32 → Int32 → Int32 → Option (Int32)
  | 0, _, _, _ => none
  | n + 1, x1, x2, x3 =>
    if w (19 * h) 2 ≤ x3 then
      some ((-1))
    else
      qbd (fX0_propAt w h x3) fun (r3 : Nat) =>
      if qisPb r3 = true then
      if w r3 0 = x1 then
        qbd (fX0_countAhead w h x3) fun (r8 : Int32) =>
        if r8 = x2 then
          some (x3)
        else
          qnm (x3 + 1) fun (x10 : Int32) =>
          fX0_numberInOrder_L2 w h n x1 x2 x10
      else
        qnm (x3 + 1) fun (x6 : Int32) =>
        fX0_numberInOrder_L2 w h n x1 x2 x6
      else none
set_option maxHeartbeats 4000000 in
set_option maxRecDepth 100000 in
theorem mX0_numberInOrder_L2 {p : Program} {l : Launch} {e : Env} {s : State} {m : MethodId} {args : Array Value} {below : List Frame} {meth : Method} {c0 : Code} {D : va_G} {G : Nat → ClassId} {ad : Nat → Nat} {w : qMem} {h : Nat} (hh : h < 12) {rF : Int32}  (hC : qCx p c0 cX0_numberInOrder 4 s m args meth RX0 D G ad) (hr : meth.sig.returnType = some .int)  : ∀ (n : Nat), ∀ (x1 : Int32) (x2 : Int32) (x3 : Int32) (H : Heap) (locs : List Loc) (ls : Array Slot), fX0_numberInOrder_L2 w h n x1 x2 x3 = some rF → qRp D G ad s w H locs → lv_has ls 4 [(0, .ref (ad (19 * h))), (1, .int x1), (2, .int x2), (3, .int x3)] → W p l e (qrm 4 0 0) s m args below meth c0 H locs 0 0 (MQ below (qQI D G ad s w rF) args s 0 0 (qAdr ad s.heap.size)) (F0 m 2 ls []) := by
  have hx := hC.1
  have hb := hC.2.1
  intro n
  induction n with
  | zero => intro x1 x2 x3 H locs ls hf; exact nomatch (show (none : Option (Int32)) = some _ from hf)
  | succ n ih =>
    intro x1 x2 x3 H locs ls hf hR hl
    rw [fX0_numberInOrder_L2] at hf
    refine lv_iload_n hx hb dX0_numberInOrder_2 rfl (lv_at hl 3 rfl) ?_
    refine lv_aload_n hx hb dX0_numberInOrder_3 rfl (lv_at hl 0 rfl) ?_
    refine qget_X0_2 hC hR hh qk_113 dX0_numberInOrder_4 ?_
    refine lv_icmp_ge (tgt := 39) hx hb dX0_numberInOrder_7 (by decide) (fun c_1 => ?_) (fun c_1 => ?_)
    · have hf := qif_t hf c_1
      refine lv_iconst (v := (-1)) hx hb dX0_numberInOrder_39 (by decide) ?_
      exact q_iret hC hR hr rfl (qso hf) rfl dX0_numberInOrder_40
    · have hf := qif_f hf c_1
      refine lv_aload_n hx hb dX0_numberInOrder_10 rfl (lv_at hl 0 rfl) ?_
      refine lv_iload_n hx hb dX0_numberInOrder_11 rfl (lv_at hl 3 rfl) ?_
      obtain ⟨r3, hq2, hf⟩ := qbd_s hf
      obtain ⟨g4, hf⟩ := qgd hf
      refine q_callVr hC hR (mX0_propAt (qJ hC) hh hq2) (by have := hh; omega) (qsh_hall G ad _ hh) rfl qk_289 qk_290 qk_291 qk_20 qk_292 qhd_X0_propAt ⟨Nat.le_of_ble_eq_true rfl, Nat.le_of_ble_eq_true rfl⟩ hl.1 rfl (Nat.le_of_ble_eq_true rfl) dX0_numberInOrder_12 ⟨Nat.zero_le _, Nat.zero_le _⟩ (fun H locs hR => ?_)
      refine qget_X3_0 hC hR (qisPb_ok g4) qk_73 dX0_numberInOrder_15 ?_
      refine lv_iload_n hx hb dX0_numberInOrder_18 rfl (lv_at hl 1 rfl) ?_
      refine lv_icmp_ne (tgt := 33) hx hb dX0_numberInOrder_19 (by decide) (fun c_5 => ?_) (fun c_5 => ?_)
      · have hf := qif_f hf c_5
        obtain ⟨x6, ex6⟩ : ∃ y : Int32, y = x3 + 1 := ⟨_, rfl⟩
        have hf := qnm_t hf ex6
        refine lv_iinc (v := x6) (lv' := [(3, .int x6), (0, .ref (ad (19 * h))), (1, .int x1), (2, .int x2)]) hx hb dX0_numberInOrder_33 hl (k := 3) rfl (by rw [ex6]; rfl) (by decide) rfl (fun ls hl => ?_)
        refine lv_goto (tgt := 2) hx hb dX0_numberInOrder_36 (by decide) ?_
        exact ih _ _ _ _ _ _ hf hR (lv_sub hl [1, 2, 3, 0] rfl)
      · have hf := qif_t hf c_5
        refine lv_aload_n hx hb dX0_numberInOrder_22 rfl (lv_at hl 0 rfl) ?_
        refine lv_iload_n hx hb dX0_numberInOrder_23 rfl (lv_at hl 3 rfl) ?_
        obtain ⟨r8, hq7, hf⟩ := qbd_s hf
        refine q_callVi hC hR (mX0_countAhead (qJ hC) hh hq7) (by have := hh; omega) (qsh_hall G ad _ hh) rfl qk_797 qk_798 qk_799 qk_20 qk_800 qhd_X0_countAhead ⟨Nat.le_of_ble_eq_true rfl, Nat.le_of_ble_eq_true rfl⟩ hl.1 rfl (Nat.le_of_ble_eq_true rfl) dX0_numberInOrder_24 ⟨Nat.zero_le _, Nat.zero_le _⟩ (fun H locs hR => ?_)
        refine lv_iload_n hx hb dX0_numberInOrder_27 rfl (lv_at hl 2 rfl) ?_
        refine lv_icmp_ne (tgt := 33) hx hb dX0_numberInOrder_28 (by decide) (fun c_9 => ?_) (fun c_9 => ?_)
        · have hf := qif_f hf c_9
          obtain ⟨x10, ex10⟩ : ∃ y : Int32, y = x3 + 1 := ⟨_, rfl⟩
          have hf := qnm_t hf ex10
          refine lv_iinc (v := x10) (lv' := [(3, .int x10), (0, .ref (ad (19 * h))), (1, .int x1), (2, .int x2)]) hx hb dX0_numberInOrder_33 hl (k := 3) rfl (by rw [ex10]; rfl) (by decide) rfl (fun ls hl => ?_)
          refine lv_goto (tgt := 2) hx hb dX0_numberInOrder_36 (by decide) ?_
          exact ih _ _ _ _ _ _ hf hR (lv_sub hl [1, 2, 3, 0] rfl)
        · have hf := qif_t hf c_9
          refine lv_iload_n hx hb dX0_numberInOrder_31 rfl (lv_at hl 3 rfl) ?_
          exact q_iret hC hR hr rfl (qso hf) rfl dX0_numberInOrder_32
def fX0_numberInOrder (w : qMem) (h : Nat) (a1 : Int32) (a2 : Int32) : Option (Int32) :=
  fX0_numberInOrder_L2 w h 100 a1 a2 0
theorem qhd_X0_numberInOrder : yX0_numberInOrder.cls ≠ "java/lang/invoke/MethodHandle" ∧ yX0_numberInOrder.cls ≠ "java/lang/invoke/VarHandle" ∧ (parseMethodDescriptor yX0_numberInOrder.desc).map (fun d => d.parameters.length) = some 2 := ⟨by decide +kernel, by decide +kernel, by decide +kernel⟩
set_option maxHeartbeats 4000000 in
set_option maxRecDepth 100000 in
theorem mX0_numberInOrder {l : Launch} {D : va_G} {G : Nat → ClassId} {ad : Nat → Nat} (hJ : qInj ad) {w : qMem} {h : Nat} (hh : h < 12) {a1 : Int32} {a2 : Int32} {rF : Int32} (hf : fX0_numberInOrder w h a1 a2 = some rF) : qCMi l D G ad yX0_numberInOrder cX0_numberInOrder 4 (some .int) 4 0 0 [.ref (ad (19 * h)), .int a1, .int a2] w rF w := by
  refine q_start RX0 rfl (by decide +kernel) hJ (fun a b h => by simp only [qQI, qQV, qQR, qQD, qQF, h]) (Nat.le_of_ble_eq_true rfl) ?_
  intro p e s m args below meth c0 ls hC hr hR hl
  have hx := hC.1
  have hb := hC.2.1
  have hl : lv_has ls 4 [(0, .ref (ad (19 * h))), (1, .int a1), (2, .int a2)] := hl
  unfold fX0_numberInOrder at hf
  refine lv_iconst (v := 0) hx hb dX0_numberInOrder_0 (by decide) ?_
  refine lv_istore_n (lv' := [(3, .int 0), (0, .ref (ad (19 * h))), (1, .int a1), (2, .int a2)]) hx hb dX0_numberInOrder_1 rfl hl (by decide) rfl (fun ls hl => ?_)
  exact mX0_numberInOrder_L2 hh hC hr 100 _ _ _ _ _ _ hf hR (lv_sub hl [1, 2, 3, 0] rfl)
