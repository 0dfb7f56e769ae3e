-- X6.saysNumber, without a level below
def fX6_saysNumber_r0 (w : qMem)  (a1 : Int32) : Option (qMem) :=
  if a1 ≤ 9 then
    qbd (fX6_says w (((48 + (a1 - a1 / 10 * 10)).toUInt32 % 65536).toInt32)) fun (w3 : qMem) =>
    some w3
  else
    none
theorem qhd_X6_saysNumber : yX6_saysNumber.cls ≠ "java/lang/invoke/MethodHandle" ∧ yX6_saysNumber.cls ≠ "java/lang/invoke/VarHandle" ∧ (parseMethodDescriptor yX6_saysNumber.desc).map (fun d => d.parameters.length) = some 1 := ⟨by decide +kernel, by decide +kernel, by decide +kernel⟩
set_option maxHeartbeats 4000000 in
set_option maxRecDepth 100000 in
theorem mX6_saysNumber_r0 {l : Launch} {D : va_G} {G : Nat → ClassId} {ad : Nat → Nat} (hJ : qInj ad) {w : qMem}   {a1 : Int32} {wF : qMem} (hf : fX6_saysNumber_r0 w a1 = some wF) : qCMv l D G ad yX6_saysNumber cX6_saysNumber 2 (none) 2 0 0 [.ref (ad 238), .int a1] w wF := by
  refine q_start RX6 rfl (by decide +kernel) hJ (fun a b h => by simp only [qQI, qQV, qQR, qQD, qQF, h]) (Nat.le_of_ble_eq_true rfl) ?_
  intro p e s m args below meth c0 ls hC hr hR hl
  have hx := hC.1
  have hb := hC.2.1
  have hl : lv_has ls 2 [(0, .ref (ad 238)), (1, .int a1)] := hl
  unfold fX6_saysNumber_r0 at hf
  refine lv_iload_n hx hb dX6_saysNumber_0 rfl (lv_at hl 1 rfl) ?_
  refine lv_bipush (v := 9) hx hb dX6_saysNumber_1 (by decide) ?_
  refine lv_icmp_le (tgt := 14) hx hb dX6_saysNumber_3 (by decide) (fun c_1 => ?_) (fun c_1 => ?_)
  · have hf := qif_t hf c_1
    refine lv_aload_n hx hb dX6_saysNumber_14 rfl (lv_at hl 0 rfl) ?_
    refine lv_bipush (v := 48) hx hb dX6_saysNumber_15 (by decide) ?_
    refine lv_iload_n hx hb dX6_saysNumber_17 rfl (lv_at hl 1 rfl) ?_
    refine lv_bipush (v := 10) hx hb dX6_saysNumber_18 (by decide) ?_
    refine lv_irem hx hb dX6_saysNumber_20 (by decide) ?_
    refine lv_iadd hx hb dX6_saysNumber_21 ?_
    refine lv_i2c hx hb dX6_saysNumber_22 rfl ?_
    obtain ⟨w3, hq2, hf⟩ := qbd_s hf
    refine q_callVv hC hR (mX6_says (qJ hC) hq2) (by decide) (qsh_238 G ad _) rfl qk_1419 qk_1421 qk_44 qk_64 qk_1422 qhd_X6_says ⟨Nat.le_of_ble_eq_true rfl, Nat.le_of_ble_eq_true rfl⟩ hl.1 rfl (Nat.le_of_ble_eq_true rfl) dX6_saysNumber_23 ⟨Nat.zero_le _, Nat.zero_le _⟩ (fun H locs hR => ?_)
    exact q_vret hC hR hr (qso hf) dX6_saysNumber_26
  · have hf := qif_f hf c_1
    refine lv_aload_n hx hb dX6_saysNumber_6 rfl (lv_at hl 0 rfl) ?_
    refine lv_iload_n hx hb dX6_saysNumber_7 rfl (lv_at hl 1 rfl) ?_
    refine lv_bipush (v := 10) hx hb dX6_saysNumber_8 (by decide) ?_
    refine lv_idiv hx hb dX6_saysNumber_10 (by decide) ?_
    exact nomatch hf
-- X6.saysNumber
def fX6_saysNumber (w : qMem)  (a1 : Int32) : Option (qMem) :=
  if a1 ≤ 9 then
    qbd (fX6_says w (((48 + (a1 - a1 / 10 * 10)).toUInt32 % 65536).toInt32)) fun (w3 : qMem) =>
    some w3
  else
    qbd (fX6_saysNumber_r0 w (a1 / 10)) fun (w5 : qMem) =>
    qbd (fX6_says w5 (((48 + (a1 - a1 / 10 * 10)).toUInt32 % 65536).toInt32)) fun (w7 : qMem) =>
    some w7
set_option maxHeartbeats 4000000 in
set_option maxRecDepth 100000 in
theorem mX6_saysNumber {l : Launch} {D : va_G} {G : Nat → ClassId} {ad : Nat → Nat} (hJ : qInj ad) {w : qMem}   {a1 : Int32} {wF : qMem} (hf : fX6_saysNumber w a1 = some wF) : qCMv l D G ad yX6_saysNumber cX6_saysNumber 2 (none) 3 0 0 [.ref (ad 238), .int a1] w wF := by
  refine q_start RX6 rfl (by decide +kernel) hJ (fun a b h => by simp only [qQI, qQV, qQR, qQD, qQF, h]) (Nat.le_of_ble_eq_true rfl) ?_
  intro p e s m args below meth c0 ls hC hr hR hl
  have hx := hC.1
  have hb := hC.2.1
  have hl : lv_has ls 2 [(0, .ref (ad 238)), (1, .int a1)] := hl
  unfold fX6_saysNumber at hf
  refine lv_iload_n hx hb dX6_saysNumber_0 rfl (lv_at hl 1 rfl) ?_
  refine lv_bipush (v := 9) hx hb dX6_saysNumber_1 (by decide) ?_
  refine lv_icmp_le (tgt := 14) hx hb dX6_saysNumber_3 (by decide) (fun c_1 => ?_) (fun c_1 => ?_)
  · have hf := qif_t hf c_1
    refine lv_aload_n hx hb dX6_saysNumber_14 rfl (lv_at hl 0 rfl) ?_
    refine lv_bipush (v := 48) hx hb dX6_saysNumber_15 (by decide) ?_
    refine lv_iload_n hx hb dX6_saysNumber_17 rfl (lv_at hl 1 rfl) ?_
    refine lv_bipush (v := 10) hx hb dX6_saysNumber_18 (by decide) ?_
    refine lv_irem hx hb dX6_saysNumber_20 (by decide) ?_
    refine lv_iadd hx hb dX6_saysNumber_21 ?_
    refine lv_i2c hx hb dX6_saysNumber_22 rfl ?_
    obtain ⟨w3, hq2, hf⟩ := qbd_s hf
    refine q_callVv hC hR (mX6_says (qJ hC) hq2) (by decide) (qsh_238 G ad _) rfl qk_1419 qk_1421 qk_44 qk_64 qk_1422 qhd_X6_says ⟨Nat.le_of_ble_eq_true rfl, Nat.le_of_ble_eq_true rfl⟩ hl.1 rfl (Nat.le_of_ble_eq_true rfl) dX6_saysNumber_23 ⟨Nat.zero_le _, Nat.zero_le _⟩ (fun H locs hR => ?_)
    exact q_vret hC hR hr (qso hf) dX6_saysNumber_26
  · have hf := qif_f hf c_1
    refine lv_aload_n hx hb dX6_saysNumber_6 rfl (lv_at hl 0 rfl) ?_
    refine lv_iload_n hx hb dX6_saysNumber_7 rfl (lv_at hl 1 rfl) ?_
    refine lv_bipush (v := 10) hx hb dX6_saysNumber_8 (by decide) ?_
    refine lv_idiv hx hb dX6_saysNumber_10 (by decide) ?_
    obtain ⟨w5, hq4, hf⟩ := qbd_s hf
    refine q_callVv hC hR (mX6_saysNumber_r0 (qJ hC) hq4) (by decide) (qsh_238 G ad _) rfl qk_1423 qk_1425 qk_45 qk_64 qk_1426 qhd_X6_saysNumber ⟨Nat.le_of_ble_eq_true rfl, Nat.le_of_ble_eq_true rfl⟩ hl.1 rfl (Nat.le_of_ble_eq_true rfl) dX6_saysNumber_11 ⟨Nat.zero_le _, Nat.zero_le _⟩ (fun H locs hR => ?_)
    refine lv_aload_n hx hb dX6_saysNumber_14 rfl (lv_at hl 0 rfl) ?_
    refine lv_bipush (v := 48) hx hb dX6_saysNumber_15 (by decide) ?_
    refine lv_iload_n hx hb dX6_saysNumber_17 rfl (lv_at hl 1 rfl) ?_
    refine lv_bipush (v := 10) hx hb dX6_saysNumber_18 (by decide) ?_
    refine lv_irem hx hb dX6_saysNumber_20 (by decide) ?_
    refine lv_iadd hx hb dX6_saysNumber_21 ?_
    refine lv_i2c hx hb dX6_saysNumber_22 rfl ?_
    obtain ⟨w7, hq6, hf⟩ := qbd_s hf
    refine q_callVv hC hR (mX6_says (qJ hC) hq6) (by decide) (qsh_238 G ad _) rfl qk_1419 qk_1421 qk_44 qk_64 qk_1422 qhd_X6_says ⟨Nat.le_of_ble_eq_true rfl, Nat.le_of_ble_eq_true rfl⟩ hl.1 rfl (Nat.le_of_ble_eq_true rfl) dX6_saysNumber_23 ⟨Nat.zero_le _, Nat.zero_le _⟩ (fun H locs hR => ?_)
    exact q_vret hC hR hr (qso hf) dX6_saysNumber_26
-- X6.saysValue
def fX6_saysValue_L63   (w : qMem) (x1 : Int32) : Option (qMem) :=
  qbd (fX6_of w x1 5) fun (r9 : Int32) =>
  if r9 ≤ 0 then
    some w
  else
    qbd (fX6_says w 35) fun (w12 : qMem) =>
    qbd (fX6_of w12 x1 5) fun (r14 : Int32) =>
    qbd (fX6_saysNumber w12 r14) fun (w16 : qMem) =>
    some w16
set_option maxHeartbeats 4000000 in
set_option maxRecDepth 100000 in
theorem mX6_saysValue_L63 {p : Program} {l : Launch} {e : Env} {s : State} {m : MethodId} {args : Array Value} {below : List Frame} {meth : Method} {c0 : Code} {D : va_G} {G : Nat → ClassId} {ad : Nat → Nat}   {wF : qMem}  (hC : qCx p c0 cX6_saysValue 3 s m args meth RX6 D G ad) (hr : meth.sig.returnType = none)  : ∀ (w : qMem) (x1 : Int32) (H : Heap) (locs : List Loc) (ls : Array Slot), fX6_saysValue_L63 w x1 = some wF → qRp D G ad s w H locs → lv_has ls 3 [(0, .ref (ad 238)), (1, .int x1)] → W p l e (qrm 4 0 0) s m args below meth c0 H locs 0 0 (MQ below (qQV D G ad s wF) args s 0 0 (qAdr ad s.heap.size)) (F0 m 63 ls []) := by
  have hx := hC.1
  have hb := hC.2.1
  intro w x1 H locs ls hf hR hl
  unfold fX6_saysValue_L63 at hf
  refine lv_aload_n hx hb dX6_saysValue_63 rfl (lv_at hl 0 rfl) ?_
  refine lv_iload_n hx hb dX6_saysValue_64 rfl (lv_at hl 1 rfl) ?_
  refine lv_iconst (v := 5) hx hb dX6_saysValue_65 (by decide) ?_
  obtain ⟨r9, hq8, hf⟩ := qbd_s hf
  refine q_callVi hC hR (mX6_of (qJ hC) hq8) (by decide) (qsh_238 G ad _) rfl qk_1230 qk_1232 qk_23 qk_64 qk_1233 qhd_X6_of ⟨Nat.le_of_ble_eq_true rfl, Nat.le_of_ble_eq_true rfl⟩ hl.1 rfl (Nat.le_of_ble_eq_true rfl) dX6_saysValue_66 ⟨Nat.zero_le _, Nat.zero_le _⟩ (fun H locs hR => ?_)
  refine lv_if_le (tgt := 88) hx hb dX6_saysValue_69 (by decide) (fun c_10 => ?_) (fun c_10 => ?_)
  · have hf := qif_t hf c_10
    exact q_vret hC hR hr (qso hf) dX6_saysValue_88
  · have hf := qif_f hf c_10
    refine lv_aload_n hx hb dX6_saysValue_72 rfl (lv_at hl 0 rfl) ?_
    refine lv_bipush (v := 35) hx hb dX6_saysValue_73 (by decide) ?_
    obtain ⟨w12, hq11, hf⟩ := qbd_s hf
    refine q_callVv hC hR (mX6_says (qJ hC) hq11) (by decide) (qsh_238 G ad _) rfl qk_1419 qk_1421 qk_44 qk_64 qk_1422 qhd_X6_says ⟨Nat.le_of_ble_eq_true rfl, Nat.le_of_ble_eq_true rfl⟩ hl.1 rfl (Nat.le_of_ble_eq_true rfl) dX6_saysValue_75 ⟨Nat.zero_le _, Nat.zero_le _⟩ (fun H locs hR => ?_)
    refine lv_aload_n hx hb dX6_saysValue_78 rfl (lv_at hl 0 rfl) ?_
    refine lv_aload_n hx hb dX6_saysValue_79 rfl (lv_at hl 0 rfl) ?_
    refine lv_iload_n hx hb dX6_saysValue_80 rfl (lv_at hl 1 rfl) ?_
    refine lv_iconst (v := 5) hx hb dX6_saysValue_81 (by decide) ?_
    obtain ⟨r14, hq13, hf⟩ := qbd_s hf
    refine q_callVi hC hR (mX6_of (qJ hC) hq13) (by decide) (qsh_238 G ad _) rfl qk_1230 qk_1232 qk_23 qk_64 qk_1233 qhd_X6_of ⟨Nat.le_of_ble_eq_true rfl, Nat.le_of_ble_eq_true rfl⟩ hl.1 rfl (Nat.le_of_ble_eq_true rfl) dX6_saysValue_82 ⟨Nat.zero_le _, Nat.zero_le _⟩ (fun H locs hR => ?_)
    obtain ⟨w16, hq15, hf⟩ := qbd_s hf
    refine q_callVv hC hR (mX6_saysNumber (qJ hC) hq15) (by decide) (qsh_238 G ad _) rfl qk_1423 qk_1425 qk_45 qk_64 qk_1426 qhd_X6_saysNumber ⟨Nat.le_of_ble_eq_true rfl, Nat.le_of_ble_eq_true rfl⟩ hl.1 rfl (Nat.le_of_ble_eq_true rfl) dX6_saysValue_85 ⟨Nat.zero_le _, Nat.zero_le _⟩ (fun H locs hR => ?_)
    exact q_vret hC hR hr (qso hf) dX6_saysValue_88
def fX6_saysValue_L21   : Nat → qMem → Int32 → Int32 → Option (qMem)
  | 0, _, _, _ => none
  | n + 1, w, x1, x2 =>
    if x2 ≤ 0 then
      qbd (fX6_of w x1 0) fun (r6 : Int32) =>
      if r6 = 2 then
        qbd (fX6_says w 126) fun (w18 : qMem) =>
        qbd (fX6_of w18 x1 3) fun (r20 : Int32) =>
        qbd (fX6_saysNumber w18 r20) fun (w22 : qMem) =>
        fX6_saysValue_L63 w22 x1
      else
        fX6_saysValue_L63 w x1
    else
      qbd (fX6_says w 39) fun (w24 : qMem) =>
      qnm (x2 + (-1)) fun (x25 : Int32) =>
      fX6_saysValue_L21 n w24 x1 x25
set_option maxHeartbeats 4000000 in
set_option maxRecDepth 100000 in
theorem mX6_saysValue_L21 {p : Program} {l : Launch} {e : Env} {s : State} {m : MethodId} {args : Array Value} {below : List Frame} {meth : Method} {c0 : Code} {D : va_G} {G : Nat → ClassId} {ad : Nat → Nat}   {wF : qMem}  (hC : qCx p c0 cX6_saysValue 3 s m args meth RX6 D G ad) (hr : meth.sig.returnType = none)  : ∀ (n : Nat), ∀ (w : qMem) (x1 : Int32) (x2 : Int32) (H : Heap) (locs : List Loc) (ls : Array Slot), fX6_saysValue_L21 n w x1 x2 = some wF → qRp D G ad s w H locs → lv_has ls 3 [(0, .ref (ad 238)), (1, .int x1), (2, .int x2)] → W p l e (qrm 4 0 0) s m args below meth c0 H locs 0 0 (MQ below (qQV D G ad s wF) args s 0 0 (qAdr ad s.heap.size)) (F0 m 21 ls []) := by
  have hx := hC.1
  have hb := hC.2.1
  intro n
  induction n with
  | zero => intro w x1 x2 H locs ls hf; exact nomatch (show (none : Option (qMem)) = some _ from hf)
  | succ n ih =>
    intro w x1 x2 H locs ls hf hR hl
    rw [fX6_saysValue_L21] at hf
    refine lv_iload_n hx hb dX6_saysValue_21 rfl (lv_at hl 2 rfl) ?_
    refine lv_if_le (tgt := 37) hx hb dX6_saysValue_22 (by decide) (fun c_4 => ?_) (fun c_4 => ?_)
    · have hf := qif_t hf c_4
      refine lv_aload_n hx hb dX6_saysValue_37 rfl (lv_at hl 0 rfl) ?_
      refine lv_iload_n hx hb dX6_saysValue_38 rfl (lv_at hl 1 rfl) ?_
      refine lv_iconst (v := 0) hx hb dX6_saysValue_39 (by decide) ?_
      obtain ⟨r6, hq5, hf⟩ := qbd_s hf
      refine q_callVi hC hR (mX6_of (qJ hC) hq5) (by decide) (qsh_238 G ad _) rfl qk_1230 qk_1232 qk_23 qk_64 qk_1233 qhd_X6_of ⟨Nat.le_of_ble_eq_true rfl, Nat.le_of_ble_eq_true rfl⟩ hl.1 rfl (Nat.le_of_ble_eq_true rfl) dX6_saysValue_40 ⟨Nat.zero_le _, Nat.zero_le _⟩ (fun H locs hR => ?_)
      refine lv_iconst (v := 2) hx hb dX6_saysValue_43 (by decide) ?_
      refine lv_icmp_ne (tgt := 63) hx hb dX6_saysValue_44 (by decide) (fun c_7 => ?_) (fun c_7 => ?_)
      · have hf := qif_f hf c_7
        exact mX6_saysValue_L63 hC hr _ _ _ _ _ hf hR (lv_sub hl [0, 1] rfl)
      · have hf := qif_t hf c_7
        refine lv_aload_n hx hb dX6_saysValue_47 rfl (lv_at hl 0 rfl) ?_
        refine lv_bipush (v := 126) hx hb dX6_saysValue_48 (by decide) ?_
        obtain ⟨w18, hq17, hf⟩ := qbd_s hf
        refine q_callVv hC hR (mX6_says (qJ hC) hq17) (by decide) (qsh_238 G ad _) rfl qk_1419 qk_1421 qk_44 qk_64 qk_1422 qhd_X6_says ⟨Nat.le_of_ble_eq_true rfl, Nat.le_of_ble_eq_true rfl⟩ hl.1 rfl (Nat.le_of_ble_eq_true rfl) dX6_saysValue_50 ⟨Nat.zero_le _, Nat.zero_le _⟩ (fun H locs hR => ?_)
        refine lv_aload_n hx hb dX6_saysValue_53 rfl (lv_at hl 0 rfl) ?_
        refine lv_aload_n hx hb dX6_saysValue_54 rfl (lv_at hl 0 rfl) ?_
        refine lv_iload_n hx hb dX6_saysValue_55 rfl (lv_at hl 1 rfl) ?_
        refine lv_iconst (v := 3) hx hb dX6_saysValue_56 (by decide) ?_
        obtain ⟨r20, hq19, hf⟩ := qbd_s hf
        refine q_callVi hC hR (mX6_of (qJ hC) hq19) (by decide) (qsh_238 G ad _) rfl qk_1230 qk_1232 qk_23 qk_64 qk_1233 qhd_X6_of ⟨Nat.le_of_ble_eq_true rfl, Nat.le_of_ble_eq_true rfl⟩ hl.1 rfl (Nat.le_of_ble_eq_true rfl) dX6_saysValue_57 ⟨Nat.zero_le _, Nat.zero_le _⟩ (fun H locs hR => ?_)
        obtain ⟨w22, hq21, hf⟩ := qbd_s hf
        refine q_callVv hC hR (mX6_saysNumber (qJ hC) hq21) (by decide) (qsh_238 G ad _) rfl qk_1423 qk_1425 qk_45 qk_64 qk_1426 qhd_X6_saysNumber ⟨Nat.le_of_ble_eq_true rfl, Nat.le_of_ble_eq_true rfl⟩ hl.1 rfl (Nat.le_of_ble_eq_true rfl) dX6_saysValue_60 ⟨Nat.zero_le _, Nat.zero_le _⟩ (fun H locs hR => ?_)
        exact mX6_saysValue_L63 hC hr _ _ _ _ _ hf hR (lv_sub hl [0, 1] rfl)
    · have hf := qif_f hf c_4
      refine lv_aload_n hx hb dX6_saysValue_25 rfl (lv_at hl 0 rfl) ?_
      refine lv_bipush (v := 39) hx hb dX6_saysValue_26 (by decide) ?_
      obtain ⟨w24, hq23, hf⟩ := qbd_s hf
      refine q_callVv hC hR (mX6_says (qJ hC) hq23) (by decide) (qsh_238 G ad _) rfl qk_1419 qk_1421 qk_44 qk_64 qk_1422 qhd_X6_says ⟨Nat.le_of_ble_eq_true rfl, Nat.le_of_ble_eq_true rfl⟩ hl.1 rfl (Nat.le_of_ble_eq_true rfl) dX6_saysValue_28 ⟨Nat.zero_le _, Nat.zero_le _⟩ (fun H locs hR => ?_)
      obtain ⟨x25, ex25⟩ : ∃ y : Int32, y = x2 + (-1) := ⟨_, rfl⟩
      have hf := qnm_t hf ex25
      refine lv_iinc (v := x25) (lv' := [(2, .int x25), (0, .ref (ad 238)), (1, .int x1)]) hx hb dX6_saysValue_31 hl (k := 2) rfl (by rw [ex25]; rfl) (by decide) rfl (fun ls hl => ?_)
      refine lv_goto (tgt := 21) hx hb dX6_saysValue_34 (by decide) ?_
      exact ih _ _ _ _ _ _ hf hR (lv_sub hl [1, 2, 0] rfl)
def fX6_saysValue (w : qMem)  (a1 : Int32) : Option (qMem) :=
  qbd (fX6_of w a1 0) fun (r2 : Int32) =>
  if r2 = 1 then
    qbd (fX6_of w a1 3) fun (r27 : Int32) =>
    fX6_saysValue_L21 100 w a1 r27
  else
    fX6_saysValue_L21 100 w a1 0
theorem qhd_X6_saysValue : yX6_saysValue.cls ≠ "java/lang/invoke/MethodHandle" ∧ yX6_saysValue.cls ≠ "java/lang/invoke/VarHandle" ∧ (parseMethodDescriptor yX6_saysValue.desc).map (fun d => d.parameters.length) = some 1 := ⟨by decide +kernel, by decide +kernel, by decide +kernel⟩
set_option maxHeartbeats 4000000 in
set_option maxRecDepth 100000 in
theorem mX6_saysValue {l : Launch} {D : va_G} {G : Nat → ClassId} {ad : Nat → Nat} (hJ : qInj ad) {w : qMem}   {a1 : Int32} {wF : qMem} (hf : fX6_saysValue w a1 = some wF) : qCMv l D G ad yX6_saysValue cX6_saysValue 3 (none) 4 0 0 [.ref (ad 238), .int a1] w wF := by
  refine q_start RX6 rfl (by decide +kernel) hJ (fun a b h => by simp only [qQI, qQV, qQR, qQD, qQF, h]) (Nat.le_of_ble_eq_true rfl) ?_
  intro p e s m args below meth c0 ls hC hr hR hl
  have hx := hC.1
  have hb := hC.2.1
  have hl : lv_has ls 3 [(0, .ref (ad 238)), (1, .int a1)] := hl
  unfold fX6_saysValue at hf
  refine lv_aload_n hx hb dX6_saysValue_0 rfl (lv_at hl 0 rfl) ?_
  refine lv_iload_n hx hb dX6_saysValue_1 rfl (lv_at hl 1 rfl) ?_
  refine lv_iconst (v := 0) hx hb dX6_saysValue_2 (by decide) ?_
  obtain ⟨r2, hq1, hf⟩ := qbd_s hf
  refine q_callVi hC hR (mX6_of (qJ hC) hq1) (by decide) (qsh_238 G ad _) rfl qk_1230 qk_1232 qk_23 qk_64 qk_1233 qhd_X6_of ⟨Nat.le_of_ble_eq_true rfl, Nat.le_of_ble_eq_true rfl⟩ hl.1 rfl (Nat.le_of_ble_eq_true rfl) dX6_saysValue_3 ⟨Nat.zero_le _, Nat.zero_le _⟩ (fun H locs hR => ?_)
  refine lv_iconst (v := 1) hx hb dX6_saysValue_6 (by decide) ?_
  refine lv_icmp_ne (tgt := 19) hx hb dX6_saysValue_7 (by decide) (fun c_3 => ?_) (fun c_3 => ?_)
  · have hf := qif_f hf c_3
    refine lv_iconst (v := 0) hx hb dX6_saysValue_19 (by decide) ?_
    refine lv_istore_n (lv' := [(2, .int 0), (0, .ref (ad 238)), (1, .int a1)]) hx hb dX6_saysValue_20 rfl hl (by decide) rfl (fun ls hl => ?_)
    exact mX6_saysValue_L21 hC hr 100 _ _ _ _ _ _ hf hR (lv_sub hl [1, 2, 0] rfl)
  · have hf := qif_t hf c_3
    refine lv_aload_n hx hb dX6_saysValue_10 rfl (lv_at hl 0 rfl) ?_
    refine lv_iload_n hx hb dX6_saysValue_11 rfl (lv_at hl 1 rfl) ?_
    refine lv_iconst (v := 3) hx hb dX6_saysValue_12 (by decide) ?_
    obtain ⟨r27, hq26, hf⟩ := qbd_s hf
    refine q_callVi hC hR (mX6_of (qJ hC) hq26) (by decide) (qsh_238 G ad _) rfl qk_1230 qk_1232 qk_23 qk_64 qk_1233 qhd_X6_of ⟨Nat.le_of_ble_eq_true rfl, Nat.le_of_ble_eq_true rfl⟩ hl.1 rfl (Nat.le_of_ble_eq_true rfl) dX6_saysValue_13 ⟨Nat.zero_le _, Nat.zero_le _⟩ (fun H locs hR => ?_)
    refine lv_goto (tgt := 20) hx hb dX6_saysValue_16 (by decide) ?_
    refine lv_istore_n (lv' := [(2, .int r27), (0, .ref (ad 238)), (1, .int a1)]) hx hb dX6_saysValue_20 rfl hl (by decide) rfl (fun ls hl => ?_)
    exact mX6_saysValue_L21 hC hr 100 _ _ _ _ _ _ hf hR (lv_sub hl [1, 2, 0] rfl)
-- X6.line
def fX6_line_L14   (w : qMem) (x1 : Int32) (s0 : Int32) : Option (Int32 × qMem) :=
  qnm (quw w 238 7 s0) fun (w4 : qMem) =>
  if w4 238 7 ≤ 0 then
    qnm (quw w4 238 13 0) fun (w6 : qMem) =>
    qbd (fX6_of w6 x1 0) fun (r8 : Int32) =>
    if qin (r8 - 1) (qtx.getD 10 []).length = true then
    qbd (fX6_says w6 ((qtx.getD 10 []).getD (r8 - 1).toNatClampNeg 0)) fun (w11 : qMem) =>
    qbd (fX6_of w11 x1 1) fun (r13 : Int32) =>
    qbd (fX6_saysNumber w11 r13) fun (w15 : qMem) =>
    qbd (fX6_says w15 58) fun (w17 : qMem) =>
    qbd (fX6_of w17 x1 2) fun (r19 : Int32) =>
    qbd (fX6_saysNumber w17 r19) fun (w21 : qMem) =>
    qbd (fX6_saysValue w21 x1) fun (w23 : qMem) =>
    qbd (fX6_of w23 x1 4) fun (r25 : Int32) =>
    if r25 = 1 then
      qbd (fX6_says w23 33) fun (w28 : qMem) =>
      some (w28 238 13, w28)
    else
      some (w23 238 13, w23)
    else none
  else
    some (0, w4)
set_option maxHeartbeats 4000000 in
set_option maxRecDepth 100000 in
theorem mX6_line_L14 {p : Program} {l : Launch} {e : Env} {s : State} {m : MethodId} {args : Array Value} {below : List Frame} {meth : Method} {c0 : Code} {D : va_G} {G : Nat → ClassId} {ad : Nat → Nat}   {rF : Int32} {wF : qMem}  (hC : qCx p c0 cX6_line 2 s m args meth RX6 D G ad) (hr : meth.sig.returnType = some .int)  : ∀ (w : qMem) (x1 : Int32) (s0 : Int32) (H : Heap) (locs : List Loc) (ls : Array Slot), fX6_line_L14 w x1 s0 = some (rF, wF) → qRp D G ad s w H locs → lv_has ls 2 [(0, .ref (ad 238)), (1, .int x1)] → W p l e (qrm 5 0 0) s m args below meth c0 H locs 0 0 (MQ below (qQI D G ad s wF rF) args s 0 0 (qAdr ad s.heap.size)) (F0 m 14 ls [.int s0, .ref (ad 238)]) := by
  have hx := hC.1
  have hb := hC.2.1
  intro w x1 s0 H locs ls hf hR hl
  unfold fX6_line_L14 at hf
  refine qput_X6_7 hC hR qk_1132 ⟨rfl, rfl⟩ dX6_line_14 (fun w4 H locs ew4 hR => ?_)
  have hf := qnm_t hf ew4
  refine lv_aload_n hx hb dX6_line_17 rfl (lv_at hl 0 rfl) ?_
  refine qget_X6_7 hC hR qk_1132 dX6_line_18 ?_
  refine lv_if_le (tgt := 26) hx hb dX6_line_21 (by decide) (fun c_5 => ?_) (fun c_5 => ?_)
  · have hf := qif_t hf c_5
    refine lv_aload_n hx hb dX6_line_26 rfl (lv_at hl 0 rfl) ?_
    refine lv_iconst (v := 0) hx hb dX6_line_27 (by decide) ?_
    refine qput_X6_13 hC hR qk_1138 ⟨rfl, rfl⟩ dX6_line_28 (fun w6 H locs ew6 hR => ?_)
    have hf := qnm_t hf ew6
    refine lv_aload_n hx hb dX6_line_31 rfl (lv_at hl 0 rfl) ?_
    refine va_ldcS (q := ad 1010) hx hb hC.2.2.2.1 (hC.2.2.2.2.2.2.2.2.2.1 ("QuakeRehearsalModel", 180, "clk", 10) (by decide +kernel)) dX6_line_32 ?_
    refine lv_aload_n hx hb dX6_line_34 rfl (lv_at hl 0 rfl) ?_
    refine lv_iload_n hx hb dX6_line_35 rfl (lv_at hl 1 rfl) ?_
    refine lv_iconst (v := 0) hx hb dX6_line_36 (by decide) ?_
    obtain ⟨r8, hq7, hf⟩ := qbd_s hf
    refine q_callVi hC hR (mX6_of (qJ hC) hq7) (by decide) (qsh_238 G ad _) rfl qk_1230 qk_1232 qk_23 qk_64 qk_1233 qhd_X6_of ⟨Nat.le_of_ble_eq_true rfl, Nat.le_of_ble_eq_true rfl⟩ hl.1 rfl (Nat.le_of_ble_eq_true rfl) dX6_line_37 ⟨Nat.zero_le _, Nat.zero_le _⟩ (fun H locs hR => ?_)
    refine lv_iconst (v := 1) hx hb dX6_line_40 (by decide) ?_
    refine lv_isub hx hb dX6_line_41 ?_
    obtain ⟨g9, hf⟩ := qgd hf
    refine q_callYVi hC hR (mJ0_charAt (t := (qtx.getD 10 [])) (qJ hC) g9) qSt_k (qX_now qSt_k (qSt_of hC (show 10 < 14 by decide)) hR) (qSt_rc (qX_now qSt_k (qSt_of hC (show 10 < 14 by decide)) hR)) qkj_1418 qkj_969 qkj_970 qkj_74 qkj_971 qhd_J0_charAt_5068e ⟨Nat.le_of_ble_eq_true rfl, Nat.le_of_ble_eq_true rfl⟩ hl.1 rfl (Nat.le_of_ble_eq_true rfl) dX6_line_42 ⟨Nat.zero_le _, Nat.zero_le _⟩ (fun H locs hz hk hR => ?_)
    obtain ⟨w11, hq10, hf⟩ := qbd_s hf
    refine q_callVv hC hR (mX6_says (qJ hC) hq10) (by decide) (qsh_238 G ad _) rfl qk_1419 qk_1421 qk_44 qk_64 qk_1422 qhd_X6_says ⟨Nat.le_of_ble_eq_true rfl, Nat.le_of_ble_eq_true rfl⟩ hl.1 rfl (Nat.le_of_ble_eq_true rfl) dX6_line_45 ⟨Nat.zero_le _, Nat.zero_le _⟩ (fun H locs hR => ?_)
    refine lv_aload_n hx hb dX6_line_48 rfl (lv_at hl 0 rfl) ?_
    refine lv_aload_n hx hb dX6_line_49 rfl (lv_at hl 0 rfl) ?_
    refine lv_iload_n hx hb dX6_line_50 rfl (lv_at hl 1 rfl) ?_
    refine lv_iconst (v := 1) hx hb dX6_line_51 (by decide) ?_
    obtain ⟨r13, hq12, hf⟩ := qbd_s hf
    refine q_callVi hC hR (mX6_of (qJ hC) hq12) (by decide) (qsh_238 G ad _) rfl qk_1230 qk_1232 qk_23 qk_64 qk_1233 qhd_X6_of ⟨Nat.le_of_ble_eq_true rfl, Nat.le_of_ble_eq_true rfl⟩ hl.1 rfl (Nat.le_of_ble_eq_true rfl) dX6_line_52 ⟨Nat.zero_le _, Nat.zero_le _⟩ (fun H locs hR => ?_)
    obtain ⟨w15, hq14, hf⟩ := qbd_s hf
    refine q_callVv hC hR (mX6_saysNumber (qJ hC) hq14) (by decide) (qsh_238 G ad _) rfl qk_1423 qk_1425 qk_45 qk_64 qk_1426 qhd_X6_saysNumber ⟨Nat.le_of_ble_eq_true rfl, Nat.le_of_ble_eq_true rfl⟩ hl.1 rfl (Nat.le_of_ble_eq_true rfl) dX6_line_55 ⟨Nat.zero_le _, Nat.zero_le _⟩ (fun H locs hR => ?_)
    refine lv_aload_n hx hb dX6_line_58 rfl (lv_at hl 0 rfl) ?_
    refine lv_bipush (v := 58) hx hb dX6_line_59 (by decide) ?_
    obtain ⟨w17, hq16, hf⟩ := qbd_s hf
    refine q_callVv hC hR (mX6_says (qJ hC) hq16) (by decide) (qsh_238 G ad _) rfl qk_1419 qk_1421 qk_44 qk_64 qk_1422 qhd_X6_says ⟨Nat.le_of_ble_eq_true rfl, Nat.le_of_ble_eq_true rfl⟩ hl.1 rfl (Nat.le_of_ble_eq_true rfl) dX6_line_61 ⟨Nat.zero_le _, Nat.zero_le _⟩ (fun H locs hR => ?_)
    refine lv_aload_n hx hb dX6_line_64 rfl (lv_at hl 0 rfl) ?_
    refine lv_aload_n hx hb dX6_line_65 rfl (lv_at hl 0 rfl) ?_
    refine lv_iload_n hx hb dX6_line_66 rfl (lv_at hl 1 rfl) ?_
    refine lv_iconst (v := 2) hx hb dX6_line_67 (by decide) ?_
    obtain ⟨r19, hq18, hf⟩ := qbd_s hf
    refine q_callVi hC hR (mX6_of (qJ hC) hq18) (by decide) (qsh_238 G ad _) rfl qk_1230 qk_1232 qk_23 qk_64 qk_1233 qhd_X6_of ⟨Nat.le_of_ble_eq_true rfl, Nat.le_of_ble_eq_true rfl⟩ hl.1 rfl (Nat.le_of_ble_eq_true rfl) dX6_line_68 ⟨Nat.zero_le _, Nat.zero_le _⟩ (fun H locs hR => ?_)
    obtain ⟨w21, hq20, hf⟩ := qbd_s hf
    refine q_callVv hC hR (mX6_saysNumber (qJ hC) hq20) (by decide) (qsh_238 G ad _) rfl qk_1423 qk_1425 qk_45 qk_64 qk_1426 qhd_X6_saysNumber ⟨Nat.le_of_ble_eq_true rfl, Nat.le_of_ble_eq_true rfl⟩ hl.1 rfl (Nat.le_of_ble_eq_true rfl) dX6_line_71 ⟨Nat.zero_le _, Nat.zero_le _⟩ (fun H locs hR => ?_)
    refine lv_aload_n hx hb dX6_line_74 rfl (lv_at hl 0 rfl) ?_
    refine lv_iload_n hx hb dX6_line_75 rfl (lv_at hl 1 rfl) ?_
    obtain ⟨w23, hq22, hf⟩ := qbd_s hf
    refine q_callVv hC hR (mX6_saysValue (qJ hC) hq22) (by decide) (qsh_238 G ad _) rfl qk_1427 qk_1429 qk_46 qk_64 qk_1430 qhd_X6_saysValue ⟨Nat.le_of_ble_eq_true rfl, Nat.le_of_ble_eq_true rfl⟩ hl.1 rfl (Nat.le_of_ble_eq_true rfl) dX6_line_76 ⟨Nat.zero_le _, Nat.zero_le _⟩ (fun H locs hR => ?_)
    refine lv_aload_n hx hb dX6_line_79 rfl (lv_at hl 0 rfl) ?_
    refine lv_iload_n hx hb dX6_line_80 rfl (lv_at hl 1 rfl) ?_
    refine lv_iconst (v := 4) hx hb dX6_line_81 (by decide) ?_
    obtain ⟨r25, hq24, hf⟩ := qbd_s hf
    refine q_callVi hC hR (mX6_of (qJ hC) hq24) (by decide) (qsh_238 G ad _) rfl qk_1230 qk_1232 qk_23 qk_64 qk_1233 qhd_X6_of ⟨Nat.le_of_ble_eq_true rfl, Nat.le_of_ble_eq_true rfl⟩ hl.1 rfl (Nat.le_of_ble_eq_true rfl) dX6_line_82 ⟨Nat.zero_le _, Nat.zero_le _⟩ (fun H locs hR => ?_)
    refine lv_iconst (v := 1) hx hb dX6_line_85 (by decide) ?_
    refine lv_icmp_ne (tgt := 95) hx hb dX6_line_86 (by decide) (fun c_26 => ?_) (fun c_26 => ?_)
    · have hf := qif_f hf c_26
      refine lv_aload_n hx hb dX6_line_95 rfl (lv_at hl 0 rfl) ?_
      refine qget_X6_13 hC hR qk_1138 dX6_line_96 ?_
      exact q_iret hC hR hr rfl (qso2 hf).1 (qso2 hf).2 dX6_line_99
    · have hf := qif_t hf c_26
      refine lv_aload_n hx hb dX6_line_89 rfl (lv_at hl 0 rfl) ?_
      refine lv_bipush (v := 33) hx hb dX6_line_90 (by decide) ?_
      obtain ⟨w28, hq27, hf⟩ := qbd_s hf
      refine q_callVv hC hR (mX6_says (qJ hC) hq27) (by decide) (qsh_238 G ad _) rfl qk_1419 qk_1421 qk_44 qk_64 qk_1422 qhd_X6_says ⟨Nat.le_of_ble_eq_true rfl, Nat.le_of_ble_eq_true rfl⟩ hl.1 rfl (Nat.le_of_ble_eq_true rfl) dX6_line_92 ⟨Nat.zero_le _, Nat.zero_le _⟩ (fun H locs hR => ?_)
      refine lv_aload_n hx hb dX6_line_95 rfl (lv_at hl 0 rfl) ?_
      refine qget_X6_13 hC hR qk_1138 dX6_line_96 ?_
      exact q_iret hC hR hr rfl (qso2 hf).1 (qso2 hf).2 dX6_line_99
  · have hf := qif_f hf c_5
    refine lv_iconst (v := 0) hx hb dX6_line_24 (by decide) ?_
    exact q_iret hC hR hr rfl (qso2 hf).1 (qso2 hf).2 dX6_line_25
def fX6_line (w : qMem)  (a1 : Int32) : Option (Int32 × qMem) :=
  qbd (fX6_isProp w a1) fun (r2 : Int32) =>
  if r2 = 0 then
    fX6_line_L14 w a1 1
  else
    fX6_line_L14 w a1 0
theorem qhd_X6_line : yX6_line.cls ≠ "java/lang/invoke/MethodHandle" ∧ yX6_line.cls ≠ "java/lang/invoke/VarHandle" ∧ (parseMethodDescriptor yX6_line.desc).map (fun d => d.parameters.length) = some 1 := ⟨by decide +kernel, by decide +kernel, by decide +kernel⟩
set_option maxHeartbeats 4000000 in
set_option maxRecDepth 100000 in
theorem mX6_line {l : Launch} {D : va_G} {G : Nat → ClassId} {ad : Nat → Nat} (hJ : qInj ad) {w : qMem}   {a1 : Int32} {rF : Int32} {wF : qMem} (hf : fX6_line w a1 = some (rF, wF)) : qCMi l D G ad yX6_line cX6_line 2 (some .int) 5 0 0 [.ref (ad 238), .int a1] w rF wF := by
  refine q_start RX6 rfl (by decide +kernel) hJ (fun a b h => by simp only [qQI, qQV, qQR, qQD, qQF, h]) (Nat.le_of_ble_eq_true rfl) ?_
  intro p e s m args below meth c0 ls hC hr hR hl
  have hx := hC.1
  have hb := hC.2.1
  have hl : lv_has ls 2 [(0, .ref (ad 238)), (1, .int a1)] := hl
  unfold fX6_line at hf
  refine lv_aload_n hx hb dX6_line_0 rfl (lv_at hl 0 rfl) ?_
  refine lv_aload_n hx hb dX6_line_1 rfl (lv_at hl 0 rfl) ?_
  refine lv_iload_n hx hb dX6_line_2 rfl (lv_at hl 1 rfl) ?_
  obtain ⟨r2, hq1, hf⟩ := qbd_s hf
  refine q_callVi hC hR (mX6_isProp (qJ hC) hq1) (by decide) (qsh_238 G ad _) rfl qk_1258 qk_1260 qk_27 qk_64 qk_1261 qhd_X6_isProp ⟨Nat.le_of_ble_eq_true rfl, Nat.le_of_ble_eq_true rfl⟩ hl.1 rfl (Nat.le_of_ble_eq_true rfl) dX6_line_3 ⟨Nat.zero_le _, Nat.zero_le _⟩ (fun H locs hR => ?_)
  refine lv_if_eq (tgt := 13) hx hb dX6_line_6 (by decide) (fun c_3 => ?_) (fun c_3 => ?_)
  · have hf := qif_t hf c_3
    refine lv_iconst (v := 1) hx hb dX6_line_13 (by decide) ?_
    exact mX6_line_L14 hC hr _ _ _ _ _ _ hf hR (lv_sub hl [0, 1] rfl)
  · have hf := qif_f hf c_3
    refine lv_iconst (v := 0) hx hb dX6_line_9 (by decide) ?_
    refine lv_goto (tgt := 14) hx hb dX6_line_10 (by decide) ?_
    exact mX6_line_L14 hC hr _ _ _ _ _ _ hf hR (lv_sub hl [0, 1] rfl)
-- X6.programmeLine
def fX6_programmeLine_L12   : Nat → qMem → Int32 → Option (Int32 × qMem)
  | 0, _, _ => none
  | n + 1, w, x1 =>
    if w 239 6 ≤ x1 then
      some (w 238 13, w)
    else
      if qin (7 + x1) 99 = true then
      qbd (fX6_saysNumber w (w 239 (7 + x1).toNatClampNeg)) fun (w6 : qMem) =>
      qnm (x1 + 1) fun (x7 : Int32) =>
      fX6_programmeLine_L12 n w6 x7
      else none
set_option maxHeartbeats 4000000 in
set_option maxRecDepth 100000 in
theorem mX6_programmeLine_L12 {p : Program} {l : Launch} {e : Env} {s : State} {m : MethodId} {args : Array Value} {below : List Frame} {meth : Method} {c0 : Code} {D : va_G} {G : Nat → ClassId} {ad : Nat → Nat}   {rF : Int32} {wF : qMem}  (hC : qCx p c0 cX6_programmeLine 2 s m args meth RX6 D G ad) (hr : meth.sig.returnType = some .int)  : ∀ (n : Nat), ∀ (w : qMem) (x1 : Int32) (H : Heap) (locs : List Loc) (ls : Array Slot), fX6_programmeLine_L12 n w x1 = some (rF, wF) → qRp D G ad s w H locs → lv_has ls 2 [(0, .ref (ad 238)), (1, .int x1)] → W p l e (qrm 4 0 0) s m args below meth c0 H locs 0 0 (MQ below (qQI D G ad s wF rF) args s 0 0 (qAdr ad s.heap.size)) (F0 m 12 ls []) := by
  have hx := hC.1
  have hb := hC.2.1
  intro n
  induction n with
  | zero => intro w x1 H locs ls hf; exact nomatch (show (none : Option (Int32 × qMem)) = some _ from hf)
  | succ n ih =>
    intro w x1 H locs ls hf hR hl
    rw [fX6_programmeLine_L12] at hf
    refine lv_iload_n hx hb dX6_programmeLine_12 rfl (lv_at hl 1 rfl) ?_
    refine lv_aload_n hx hb dX6_programmeLine_13 rfl (lv_at hl 0 rfl) ?_
    refine qget_X6_0 hC hR qk_1125 dX6_programmeLine_14 ?_
    refine lv_bipush (v := 6) hx hb dX6_programmeLine_17 (by decide) ?_
    refine q_ild hC hR (j := 6) (by decide) (qsh_239 G ad _) (by decide) (by decide) dX6_programmeLine_19 ?_
    refine lv_icmp_ge (tgt := 42) hx hb dX6_programmeLine_20 (by decide) (fun c_3 => ?_) (fun c_3 => ?_)
    · have hf := qif_t hf c_3
      refine lv_aload_n hx hb dX6_programmeLine_42 rfl (lv_at hl 0 rfl) ?_
      refine qget_X6_13 hC hR qk_1138 dX6_programmeLine_43 ?_
      exact q_iret hC hR hr rfl (qso2 hf).1 (qso2 hf).2 dX6_programmeLine_46
    · have hf := qif_f hf c_3
      refine lv_aload_n hx hb dX6_programmeLine_23 rfl (lv_at hl 0 rfl) ?_
      refine lv_aload_n hx hb dX6_programmeLine_24 rfl (lv_at hl 0 rfl) ?_
      refine qget_X6_0 hC hR qk_1125 dX6_programmeLine_25 ?_
      refine lv_bipush (v := 7) hx hb dX6_programmeLine_28 (by decide) ?_
      refine lv_iload_n hx hb dX6_programmeLine_30 rfl (lv_at hl 1 rfl) ?_
      refine lv_iadd hx hb dX6_programmeLine_31 ?_
      obtain ⟨g4, hf⟩ := qgd hf
      refine q_ild hC hR (j := (7 + x1).toNatClampNeg) (by decide) (qsh_239 G ad _) g4 rfl dX6_programmeLine_32 ?_
      obtain ⟨w6, hq5, hf⟩ := qbd_s hf
      refine q_callVv hC hR (mX6_saysNumber (qJ hC) hq5) (by decide) (qsh_238 G ad _) rfl qk_1423 qk_1425 qk_45 qk_64 qk_1426 qhd_X6_saysNumber ⟨Nat.le_of_ble_eq_true rfl, Nat.le_of_ble_eq_true rfl⟩ hl.1 rfl (Nat.le_of_ble_eq_true rfl) dX6_programmeLine_33 ⟨Nat.zero_le _, Nat.zero_le _⟩ (fun H locs hR => ?_)
      obtain ⟨x7, ex7⟩ : ∃ y : Int32, y = x1 + 1 := ⟨_, rfl⟩
      have hf := qnm_t hf ex7
      refine lv_iinc (v := x7) (lv' := [(1, .int x7), (0, .ref (ad 238))]) hx hb dX6_programmeLine_36 hl (k := 1) rfl (by rw [ex7]; rfl) (by decide) rfl (fun ls hl => ?_)
      refine lv_goto (tgt := 12) hx hb dX6_programmeLine_39 (by decide) ?_
      exact ih _ _ _ _ _ hf hR (lv_sub hl [1, 0] rfl)
def fX6_programmeLine (w : qMem)   : Option (Int32 × qMem) :=
  qnm (quw w 238 7 0) fun (w1 : qMem) =>
  qnm (quw w1 238 13 0) fun (w2 : qMem) =>
  fX6_programmeLine_L12 100 w2 0
theorem qhd_X6_programmeLine : yX6_programmeLine.cls ≠ "java/lang/invoke/MethodHandle" ∧ yX6_programmeLine.cls ≠ "java/lang/invoke/VarHandle" ∧ (parseMethodDescriptor yX6_programmeLine.desc).map (fun d => d.parameters.length) = some 0 := ⟨by decide +kernel, by decide +kernel, by decide +kernel⟩
set_option maxHeartbeats 4000000 in
set_option maxRecDepth 100000 in
theorem mX6_programmeLine {l : Launch} {D : va_G} {G : Nat → ClassId} {ad : Nat → Nat} (hJ : qInj ad) {w : qMem}    {rF : Int32} {wF : qMem} (hf : fX6_programmeLine w = some (rF, wF)) : qCMi l D G ad yX6_programmeLine cX6_programmeLine 2 (some .int) 4 0 0 [.ref (ad 238)] w rF wF := by
  refine q_start RX6 rfl (by decide +kernel) hJ (fun a b h => by simp only [qQI, qQV, qQR, qQD, qQF, h]) (Nat.le_of_ble_eq_true rfl) ?_
  intro p e s m args below meth c0 ls hC hr hR hl
  have hx := hC.1
  have hb := hC.2.1
  have hl : lv_has ls 2 [(0, .ref (ad 238))] := hl
  unfold fX6_programmeLine at hf
  refine lv_aload_n hx hb dX6_programmeLine_0 rfl (lv_at hl 0 rfl) ?_
  refine lv_iconst (v := 0) hx hb dX6_programmeLine_1 (by decide) ?_
  refine qput_X6_7 hC hR qk_1132 ⟨rfl, rfl⟩ dX6_programmeLine_2 (fun w1 H locs ew1 hR => ?_)
  have hf := qnm_t hf ew1
  refine lv_aload_n hx hb dX6_programmeLine_5 rfl (lv_at hl 0 rfl) ?_
  refine lv_iconst (v := 0) hx hb dX6_programmeLine_6 (by decide) ?_
  refine qput_X6_13 hC hR qk_1138 ⟨rfl, rfl⟩ dX6_programmeLine_7 (fun w2 H locs ew2 hR => ?_)
  have hf := qnm_t hf ew2
  refine lv_iconst (v := 0) hx hb dX6_programmeLine_10 (by decide) ?_
  refine lv_istore_n (lv' := [(1, .int 0), (0, .ref (ad 238))]) hx hb dX6_programmeLine_11 rfl hl (by decide) rfl (fun ls hl => ?_)
  exact mX6_programmeLine_L12 hC hr 100 _ _ _ _ _ hf hR (lv_sub hl [1, 0] rfl)
-- X6.skip
def fX6_skip_L2 (ts1 : List Int32)  : Nat → qMem → Int32 → Option (qMem)
  | 0, _, _ => none
  | n + 1, w, x2 =>
    if Int32.ofNat ts1.length ≤ x2 then
      some w
    else
      if w 238 17 = 0 then
        if qin x2 ts1.length = true then
        if qin x2 ts1.length = true then
        qbd2 (fX6_sign w (ts1.getD (x2).toNatClampNeg 0) (ts1.getD (x2).toNatClampNeg 0)) fun (r6 : Int32) (w7 : qMem) =>
        qnm (x2 + 1) fun (x8 : Int32) =>
        fX6_skip_L2 ts1 n w7 x8
        else none
        else none
      else
        some w
set_option maxHeartbeats 4000000 in
set_option maxRecDepth 100000 in
theorem mX6_skip_L2 {p : Program} {l : Launch} {e : Env} {s : State} {m : MethodId} {args : Array Value} {below : List Frame} {meth : Method} {c0 : Code} {D : va_G} {G : Nat → ClassId} {ad : Nat → Nat} {qs1 : Nat} {ts1 : List Int32}  {wF : qMem}  (hC : qCx p c0 cX6_skip 4 s m args meth RX6 D G ad) (hr : meth.sig.returnType = none) (hE1 : qSt qs1 ts1 (qAdr ad s.heap.size) s s.heap)  : ∀ (n : Nat), ∀ (w : qMem) (x2 : Int32) (H : Heap) (locs : List Loc) (ls : Array Slot), fX6_skip_L2 ts1 n w x2 = some wF → qRp D G ad s w H locs → lv_has ls 4 [(0, .ref (ad 238)), (1, .ref qs1), (2, .int x2)] → W p l e (qrm 5 0 0) s m args below meth c0 H locs 0 0 (MQ below (qQV D G ad s wF) args s 0 0 (qAdr ad s.heap.size)) (F0 m 2 ls []) := by
  have hx := hC.1
  have hb := hC.2.1
  intro n
  induction n with
  | zero => intro w x2 H locs ls hf; exact nomatch (show (none : Option (qMem)) = some _ from hf)
  | succ n ih =>
    intro w x2 H locs ls hf hR hl
    rw [fX6_skip_L2] at hf
    refine lv_iload_n hx hb dX6_skip_2 rfl (lv_at hl 2 rfl) ?_
    refine lv_aload_n hx hb dX6_skip_3 rfl (lv_at hl 1 rfl) ?_
    refine q_callYVi hC hR (mJ0_length (t := ts1) (qJ hC)) qSt_k (qX_now qSt_k hE1 hR) (qSt_rc (qX_now qSt_k hE1 hR)) qkj_1457 qkj_959 qkj_960 qkj_74 qkj_961 qhd_J0_length_8abf5 ⟨Nat.le_of_ble_eq_true rfl, Nat.le_of_ble_eq_true rfl⟩ hl.1 rfl (Nat.le_of_ble_eq_true rfl) dX6_skip_4 ⟨Nat.zero_le _, Nat.zero_le _⟩ (fun H locs hz hk hR => ?_)
    refine lv_icmp_ge (tgt := 38) hx hb dX6_skip_7 (by decide) (fun c_1 => ?_) (fun c_1 => ?_)
    · have hf := qif_t hf c_1
      exact q_vret hC hR hr (qso hf) dX6_skip_38
    · have hf := qif_f hf c_1
      refine lv_aload_n hx hb dX6_skip_10 rfl (lv_at hl 0 rfl) ?_
      refine qget_X6_17 hC hR qk_1142 dX6_skip_11 ?_
      refine lv_if_ne (tgt := 38) hx hb dX6_skip_14 (by decide) (fun c_2 => ?_) (fun c_2 => ?_)
      · have hf := qif_f hf c_2
        exact q_vret hC hR hr (qso hf) dX6_skip_38
      · have hf := qif_t hf c_2
        refine lv_aload_n hx hb dX6_skip_17 rfl (lv_at hl 0 rfl) ?_
        refine lv_aload_n hx hb dX6_skip_18 rfl (lv_at hl 1 rfl) ?_
        refine lv_iload_n hx hb dX6_skip_19 rfl (lv_at hl 2 rfl) ?_
        obtain ⟨g3, hf⟩ := qgd hf
        refine q_callYVi hC hR (mJ0_charAt (t := ts1) (qJ hC) g3) qSt_k (qX_now qSt_k hE1 hR) (qSt_rc (qX_now qSt_k hE1 hR)) qkj_1418 qkj_969 qkj_970 qkj_74 qkj_971 qhd_J0_charAt_5068e ⟨Nat.le_of_ble_eq_true rfl, Nat.le_of_ble_eq_true rfl⟩ hl.1 rfl (Nat.le_of_ble_eq_true rfl) dX6_skip_20 ⟨Nat.zero_le _, Nat.zero_le _⟩ (fun H locs hz hk hR => ?_)
        refine lv_aload_n hx hb dX6_skip_23 rfl (lv_at hl 1 rfl) ?_
        refine lv_iload_n hx hb dX6_skip_24 rfl (lv_at hl 2 rfl) ?_
        obtain ⟨g4, hf⟩ := qgd hf
        refine q_callYVi hC hR (mJ0_charAt (t := ts1) (qJ hC) g4) qSt_k (qX_now qSt_k hE1 hR) (qSt_rc (qX_now qSt_k hE1 hR)) qkj_1418 qkj_969 qkj_970 qkj_74 qkj_971 qhd_J0_charAt_5068e ⟨Nat.le_of_ble_eq_true rfl, Nat.le_of_ble_eq_true rfl⟩ hl.1 rfl (Nat.le_of_ble_eq_true rfl) dX6_skip_25 ⟨Nat.zero_le _, Nat.zero_le _⟩ (fun H locs hz hk hR => ?_)
        obtain ⟨r6, w7, hq5, hf⟩ := qbd2_s hf
        refine q_callVi hC hR (mX6_sign (qJ hC) hq5) (by decide) (qsh_238 G ad _) rfl qk_1738 qk_1740 qk_51 qk_64 qk_1741 qhd_X6_sign ⟨Nat.le_of_ble_eq_true rfl, Nat.le_of_ble_eq_true rfl⟩ hl.1 rfl (Nat.le_of_ble_eq_true rfl) dX6_skip_28 ⟨Nat.zero_le _, Nat.zero_le _⟩ (fun H locs hR => ?_)
        refine lv_istore_n (lv' := [(3, .int r6), (0, .ref (ad 238)), (1, .ref qs1), (2, .int x2)]) hx hb dX6_skip_31 rfl hl (by decide) rfl (fun ls hl => ?_)
        obtain ⟨x8, ex8⟩ : ∃ y : Int32, y = x2 + 1 := ⟨_, rfl⟩
        have hf := qnm_t hf ex8
        refine lv_iinc (v := x8) (lv' := [(2, .int x8), (3, .int r6), (0, .ref (ad 238)), (1, .ref qs1)]) hx hb dX6_skip_32 hl (k := 3) rfl (by rw [ex8]; rfl) (by decide) rfl (fun ls hl => ?_)
        refine lv_goto (tgt := 2) hx hb dX6_skip_35 (by decide) ?_
        exact ih _ _ _ _ _ hf hR (lv_sub hl [2, 3, 0] rfl)
def fX6_skip (w : qMem) (ts1 : List Int32)  : Option (qMem) :=
  fX6_skip_L2 ts1 100 w 0
theorem qhd_X6_skip : yX6_skip.cls ≠ "java/lang/invoke/MethodHandle" ∧ yX6_skip.cls ≠ "java/lang/invoke/VarHandle" ∧ (parseMethodDescriptor yX6_skip.desc).map (fun d => d.parameters.length) = some 1 := ⟨by decide +kernel, by decide +kernel, by decide +kernel⟩
set_option maxHeartbeats 4000000 in
set_option maxRecDepth 100000 in
theorem mX6_skip {l : Launch} {D : va_G} {G : Nat → ClassId} {ad : Nat → Nat} (hJ : qInj ad) {w : qMem} {qs1 : Nat} {ts1 : List Int32}   {wF : qMem} (hf : fX6_skip w ts1 = some wF) : qCY l D G ad yX6_skip cX6_skip 4 (none) 5 0 0 [.ref (ad 238), .ref qs1] w (qSt qs1 ts1) (fun st => qQV D G ad st wF) := by
  refine q_startY RX6 rfl (by decide +kernel) hJ (fun a b h => by simp only [qQI, qQV, qQR, qQD, qQF, h]) (Nat.le_of_ble_eq_true rfl) ?_
  intro p e s m args below meth c0 ls hC hr hE1 hR hl
  have hx := hC.1
  have hb := hC.2.1
  have hl : lv_has ls 4 [(0, .ref (ad 238)), (1, .ref qs1)] := hl
  unfold fX6_skip at hf
  refine lv_iconst (v := 0) hx hb dX6_skip_0 (by decide) ?_
  refine lv_istore_n (lv' := [(2, .int 0), (0, .ref (ad 238)), (1, .ref qs1)]) hx hb dX6_skip_1 rfl hl (by decide) rfl (fun ls hl => ?_)
  exact mX6_skip_L2 hC hr hE1 100 _ _ _ _ _ hf hR (lv_sub hl [1, 2, 0] rfl)
-- X6.common
def fX6_common_L2 (w : qMem) (ts1 : List Int32)  : Nat → Int32 → Option (Int32)
  | 0, _ => none
  | n + 1, x2 =>
    if Int32.ofNat ts1.length ≤ x2 then
      some (x2)
    else
      if w 238 15 ≤ (w 238 16) + x2 then
        some (x2)
      else
        if qin ((w 238 16) + x2) 60 = true then
        if qin x2 ts1.length = true then
        if w 245 ((w 238 16) + x2).toNatClampNeg = ts1.getD (x2).toNatClampNeg 0 then
          qnm (x2 + 1) fun (x6 : Int32) =>
          fX6_common_L2 w ts1 n x6
        else
          some (x2)
        else none
        else none
set_option maxHeartbeats 4000000 in
set_option maxRecDepth 100000 in
theorem mX6_common_L2 {p : Program} {l : Launch} {e : Env} {s : State} {m : MethodId} {args : Array Value} {below : List Frame} {meth : Method} {c0 : Code} {D : va_G} {G : Nat → ClassId} {ad : Nat → Nat} {qs1 : Nat} {w : qMem} {ts1 : List Int32}  {rF : Int32}  (hC : qCx p c0 cX6_common 3 s m args meth RX6 D G ad) (hr : meth.sig.returnType = some .int) (hE1 : qSt qs1 ts1 (qAdr ad s.heap.size) s s.heap)  : ∀ (n : Nat), ∀ (x2 : Int32) (H : Heap) (locs : List Loc) (ls : Array Slot), fX6_common_L2 w ts1 n x2 = some rF → qRp D G ad s w H locs → lv_has ls 3 [(0, .ref (ad 238)), (1, .ref qs1), (2, .int x2)] → W p l e (qrm 5 0 0) s m args below meth c0 H locs 0 0 (MQ below (qQI D G ad s w rF) args s 0 0 (qAdr ad s.heap.size)) (F0 m 2 ls []) := by
  have hx := hC.1
  have hb := hC.2.1
  intro n
  induction n with
  | zero => intro x2 H locs ls hf; exact nomatch (show (none : Option (Int32)) = some _ from hf)
  | succ n ih =>
    intro x2 H locs ls hf hR hl
    rw [fX6_common_L2] at hf
    refine lv_iload_n hx hb dX6_common_2 rfl (lv_at hl 2 rfl) ?_
    refine lv_aload_n hx hb dX6_common_3 rfl (lv_at hl 1 rfl) ?_
    refine q_callYVi hC hR (mJ0_length (t := ts1) (qJ hC)) qSt_k (qX_now qSt_k hE1 hR) (qSt_rc (qX_now qSt_k hE1 hR)) qkj_1457 qkj_959 qkj_960 qkj_74 qkj_961 qhd_J0_length_8abf5 ⟨Nat.le_of_ble_eq_true rfl, Nat.le_of_ble_eq_true rfl⟩ hl.1 rfl (Nat.le_of_ble_eq_true rfl) dX6_common_4 ⟨Nat.zero_le _, Nat.zero_le _⟩ (fun H locs hz hk hR => ?_)
    refine lv_icmp_ge (tgt := 48) hx hb dX6_common_7 (by decide) (fun c_1 => ?_) (fun c_1 => ?_)
    · have hf := qif_t hf c_1
      refine lv_iload_n hx hb dX6_common_48 rfl (lv_at hl 2 rfl) ?_
      exact q_iret hC hR hr rfl (qso hf) rfl dX6_common_49
    · have hf := qif_f hf c_1
      refine lv_aload_n hx hb dX6_common_10 rfl (lv_at hl 0 rfl) ?_
      refine qget_X6_16 hC hR qk_1141 dX6_common_11 ?_
      refine lv_iload_n hx hb dX6_common_14 rfl (lv_at hl 2 rfl) ?_
      refine lv_iadd hx hb dX6_common_15 ?_
      refine lv_aload_n hx hb dX6_common_16 rfl (lv_at hl 0 rfl) ?_
      refine qget_X6_15 hC hR qk_1140 dX6_common_17 ?_
      refine lv_icmp_ge (tgt := 48) hx hb dX6_common_20 (by decide) (fun c_2 => ?_) (fun c_2 => ?_)
      · have hf := qif_t hf c_2
        refine lv_iload_n hx hb dX6_common_48 rfl (lv_at hl 2 rfl) ?_
        exact q_iret hC hR hr rfl (qso hf) rfl dX6_common_49
      · have hf := qif_f hf c_2
        refine lv_aload_n hx hb dX6_common_23 rfl (lv_at hl 0 rfl) ?_
        refine qget_X6_14 hC hR qk_1139 dX6_common_24 ?_
        refine lv_aload_n hx hb dX6_common_27 rfl (lv_at hl 0 rfl) ?_
        refine qget_X6_16 hC hR qk_1141 dX6_common_28 ?_
        refine lv_iload_n hx hb dX6_common_31 rfl (lv_at hl 2 rfl) ?_
        refine lv_iadd hx hb dX6_common_32 ?_
        obtain ⟨g3, hf⟩ := qgd hf
        refine q_cld hC hR (j := ((w 238 16) + x2).toNatClampNeg) (by decide) (qsh_245 G ad _) g3 rfl dX6_common_33 ?_
        refine lv_aload_n hx hb dX6_common_34 rfl (lv_at hl 1 rfl) ?_
        refine lv_iload_n hx hb dX6_common_35 rfl (lv_at hl 2 rfl) ?_
        obtain ⟨g4, hf⟩ := qgd hf
        refine q_callYVi hC hR (mJ0_charAt (t := ts1) (qJ hC) g4) qSt_k (qX_now qSt_k hE1 hR) (qSt_rc (qX_now qSt_k hE1 hR)) qkj_1418 qkj_969 qkj_970 qkj_74 qkj_971 qhd_J0_charAt_5068e ⟨Nat.le_of_ble_eq_true rfl, Nat.le_of_ble_eq_true rfl⟩ hl.1 rfl (Nat.le_of_ble_eq_true rfl) dX6_common_36 ⟨Nat.zero_le _, Nat.zero_le _⟩ (fun H locs hz hk hR => ?_)
        refine lv_icmp_ne (tgt := 48) hx hb dX6_common_39 (by decide) (fun c_5 => ?_) (fun c_5 => ?_)
        · have hf := qif_f hf c_5
          refine lv_iload_n hx hb dX6_common_48 rfl (lv_at hl 2 rfl) ?_
          exact q_iret hC hR hr rfl (qso hf) rfl dX6_common_49
        · have hf := qif_t hf c_5
          obtain ⟨x6, ex6⟩ : ∃ y : Int32, y = x2 + 1 := ⟨_, rfl⟩
          have hf := qnm_t hf ex6
          refine lv_iinc (v := x6) (lv' := [(2, .int x6), (0, .ref (ad 238)), (1, .ref qs1)]) hx hb dX6_common_42 hl (k := 2) rfl (by rw [ex6]; rfl) (by decide) rfl (fun ls hl => ?_)
          refine lv_goto (tgt := 2) hx hb dX6_common_45 (by decide) ?_
          exact ih _ _ _ _ hf hR (lv_sub hl [1, 2, 0] rfl)
def fX6_common (w : qMem) (ts1 : List Int32)  : Option (Int32) :=
  fX6_common_L2 w ts1 100 0
theorem qhd_X6_common : yX6_common.cls ≠ "java/lang/invoke/MethodHandle" ∧ yX6_common.cls ≠ "java/lang/invoke/VarHandle" ∧ (parseMethodDescriptor yX6_common.desc).map (fun d => d.parameters.length) = some 1 := ⟨by decide +kernel, by decide +kernel, by decide +kernel⟩
set_option maxHeartbeats 4000000 in
set_option maxRecDepth 100000 in
theorem mX6_common {l : Launch} {D : va_G} {G : Nat → ClassId} {ad : Nat → Nat} (hJ : qInj ad) {w : qMem} {qs1 : Nat} {ts1 : List Int32}   {rF : Int32} (hf : fX6_common w ts1 = some rF) : qCY l D G ad yX6_common cX6_common 3 (some .int) 5 0 0 [.ref (ad 238), .ref qs1] w (qSt qs1 ts1) (fun st => qQI D G ad st w rF) := by
  refine q_startY RX6 rfl (by decide +kernel) hJ (fun a b h => by simp only [qQI, qQV, qQR, qQD, qQF, h]) (Nat.le_of_ble_eq_true rfl) ?_
  intro p e s m args below meth c0 ls hC hr hE1 hR hl
  have hx := hC.1
  have hb := hC.2.1
  have hl : lv_has ls 3 [(0, .ref (ad 238)), (1, .ref qs1)] := hl
  unfold fX6_common at hf
  refine lv_iconst (v := 0) hx hb dX6_common_0 (by decide) ?_
  refine lv_istore_n (lv' := [(2, .int 0), (0, .ref (ad 238)), (1, .ref qs1)]) hx hb dX6_common_1 rfl hl (by decide) rfl (fun ls hl => ?_)
  exact mX6_common_L2 hC hr hE1 100 _ _ _ _ hf hR (lv_sub hl [1, 2, 0] rfl)
-- X6.word
def fX6_word_L10   : Nat → qMem → Int32 → Int32 → List Int32 → Int32 → Option (Int32 × qMem)
  | 0, _, _, _, _, _ => none
  | n + 1, w, x1, x2, t3, x4 =>
    if Int32.ofNat (qtx.getD 13 []).length ≤ x2 then
      qbd (fX6_skip w t3) fun (w3 : qMem) =>
      some (x1, w3)
    else
      qbd (qidx (qtx.getD 13 []) x2) fun (r4 : Int32) =>
      qbd (qsub (qtx.getD 13 []) x2 r4) fun (t6 : List Int32) =>
      if x4 = 0 then
        qnm (r4 + 1) fun (x11 : Int32) =>
        qnm (x4 + 1) fun (x12 : Int32) =>
        fX6_word_L10 n w x4 x11 t6 x12
      else
        qbd (fX6_common w t6) fun (r14 : Int32) =>
        qbd (fX6_common w t3) fun (r16 : Int32) =>
        if r14 ≤ r16 then
          qnm (r4 + 1) fun (x18 : Int32) =>
          qnm (x4 + 1) fun (x19 : Int32) =>
          fX6_word_L10 n w x1 x18 t3 x19
        else
          qnm (r4 + 1) fun (x20 : Int32) =>
          qnm (x4 + 1) fun (x21 : Int32) =>
          fX6_word_L10 n w x4 x20 t6 x21
set_option maxHeartbeats 4000000 in
set_option maxRecDepth 100000 in
theorem mX6_word_L10 {p : Program} {l : Launch} {e : Env} {s : State} {m : MethodId} {args : Array Value} {below : List Frame} {meth : Method} {c0 : Code} {D : va_G} {G : Nat → ClassId} {ad : Nat → Nat}   {rF : Int32} {wF : qMem}  (hC : qCx p c0 cX6_word 7 s m args meth RX6 D G ad) (hr : meth.sig.returnType = some .int)  : ∀ (n : Nat), ∀ (w : qMem) (x1 : Int32) (x2 : Int32) (t3 : List Int32) (x4 : Int32) (q3 : Nat) (cc cs : Nat) (H : Heap) (locs : List Loc) (ls : Array Slot), fX6_word_L10 n w x1 x2 t3 x4 = some (rF, wF) → qRp D G ad s w H locs → lv_has ls 7 [(0, .ref (ad 238)), (1, .int x1), (2, .int x2), (3, .ref q3), (4, .int x4)] → cc + 2 * n ≤ 22 → cs + 12 * n ≤ 132 → qSt q3 t3 (qAdr ad H.size) s H → W p l e (qrm 6 22 132) s m args below meth c0 H locs cc cs (MQ below (qQI D G ad s wF rF) args s 22 132 (qAdr ad s.heap.size)) (F0 m 10 ls []) := by
  have hx := hC.1
  have hb := hC.2.1
  intro n
  induction n with
  | zero => intro w x1 x2 t3 x4 q3 cc cs H locs ls hf; exact nomatch (show (none : Option (Int32 × qMem)) = some _ from hf)
  | succ n ih =>
    intro w x1 x2 t3 x4 q3 cc cs H locs ls hf hR hl hcc hcs hS3
    rw [fX6_word_L10] at hf
    refine lv_iload_n hx hb dX6_word_10 rfl (lv_at hl 2 rfl) ?_
    refine va_ldcS (q := ad 1013) hx hb hC.2.2.2.1 (hC.2.2.2.2.2.2.2.2.2.1 ("QuakeRehearsalModel", 212, "cup lamp cat take cue set shock add perform quiet ", 13) (by decide +kernel)) dX6_word_11 ?_
    refine q_callYVi hC hR (mJ0_length (t := (qtx.getD 13 [])) (qJ hC)) qSt_k (qX_now qSt_k (qSt_of hC (show 13 < 14 by decide)) hR) (qSt_rc (qX_now qSt_k (qSt_of hC (show 13 < 14 by decide)) hR)) qkj_1457 qkj_959 qkj_960 qkj_74 qkj_961 qhd_J0_length_8abf5 ⟨Nat.le_of_ble_eq_true rfl, Nat.le_of_ble_eq_true rfl⟩ hl.1 rfl (Nat.le_of_ble_eq_true rfl) dX6_word_13 ⟨by show _ ≤ 22; omega, by show _ ≤ 132; omega⟩ (fun H locs hz hk hR => ?_)
    have hS3 := qX_on qSt_k hS3 hz hk
    refine lv_icmp_ge (tgt := 75) hx hb dX6_word_16 (by decide) (fun c_1 => ?_) (fun c_1 => ?_)
    · have hf := qif_t hf c_1
      refine lv_aload_n hx hb dX6_word_75 rfl (lv_at hl 0 rfl) ?_
      refine lv_aload_n hx hb dX6_word_76 rfl (lv_at hl 3 rfl) ?_
      obtain ⟨w3, hq2, hf⟩ := qbd_s hf
      refine q_callYVv hC hR (mX6_skip (qJ hC) hq2) qSt_k hS3 (va_recv hC.2.2.2.2.2.2.1 hR.1 (ci := 9) (q0 := 238) rfl (by rw [qat G ad _ (by decide), (qsh_238 G ad _)])) qk_1734 qk_1736 qk_50 qk_64 qk_1737 qhd_X6_skip ⟨Nat.le_of_ble_eq_true rfl, Nat.le_of_ble_eq_true rfl⟩ hl.1 rfl (Nat.le_of_ble_eq_true rfl) dX6_word_77 ⟨by show _ ≤ 22; omega, by show _ ≤ 132; omega⟩ (fun H locs hz hk hR => ?_)
      have hS3 := qX_on qSt_k hS3 hz hk
      refine lv_iload_n hx hb dX6_word_80 rfl (lv_at hl 1 rfl) ?_
      refine W.widen (k := 22) (n := 132) (by omega) (by omega) ?_
      exact q_iret hC hR hr rfl (qso2 hf).1 (qso2 hf).2 dX6_word_81
    · have hf := qif_f hf c_1
      refine va_ldcS (q := ad 1013) hx hb hC.2.2.2.1 (hC.2.2.2.2.2.2.2.2.2.1 ("QuakeRehearsalModel", 212, "cup lamp cat take cue set shock add perform quiet ", 13) (by decide +kernel)) dX6_word_19 ?_
      refine lv_bipush (v := 32) hx hb dX6_word_21 (by decide) ?_
      refine lv_iload_n hx hb dX6_word_23 rfl (lv_at hl 2 rfl) ?_
      obtain ⟨r4, hq5, hf⟩ := qbd_s hf
      refine q_callYVi hC hR (mJ0_indexOfQ (t := (qtx.getD 13 [])) (qJ hC) hq5) qSt_k (qX_now qSt_k (qSt_of hC (show 13 < 14 by decide)) hR) (qSt_rc (qX_now qSt_k (qSt_of hC (show 13 < 14 by decide)) hR)) qkj_1458 qkj_1459 qkj_1460 qkj_74 qkj_1461 qhd_J0_indexOf_7cf53 ⟨Nat.le_of_ble_eq_true rfl, Nat.le_of_ble_eq_true rfl⟩ hl.1 rfl (Nat.le_of_ble_eq_true rfl) dX6_word_24 ⟨by show _ ≤ 22; omega, by show _ ≤ 132; omega⟩ (fun H locs hz hk hR => ?_)
      have hS3 := qX_on qSt_k hS3 hz hk
      refine lv_istore (lv' := [(5, .int r4), (0, .ref (ad 238)), (1, .int x1), (2, .int x2), (3, .ref q3), (4, .int x4)]) hx hb dX6_word_27 hl (by decide) rfl (fun ls hl => ?_)
      refine va_ldcS (q := ad 1013) hx hb hC.2.2.2.1 (hC.2.2.2.2.2.2.2.2.2.1 ("QuakeRehearsalModel", 212, "cup lamp cat take cue set shock add perform quiet ", 13) (by decide +kernel)) dX6_word_29 ?_
      refine lv_iload_n hx hb dX6_word_31 rfl (lv_at hl 3 rfl) ?_
      refine lv_iload hx hb dX6_word_32 (lv_at hl 0 rfl) ?_
      obtain ⟨t6, hq7, hf⟩ := qbd_s hf
      refine q_callYVr hC hR (mJ0_substringQ (t := (qtx.getD 13 [])) (qJ hC) hq7) qSt_k (fun _ => qSt_k) (qX_now qSt_k (qSt_of hC (show 13 < 14 by decide)) hR) (qSt_rc (qX_now qSt_k (qSt_of hC (show 13 < 14 by decide)) hR)) qkj_1511 qkj_1512 qkj_1513 qkj_74 qkj_1514 qhd_J0_substring_37a41 ⟨Nat.le_of_ble_eq_true rfl, Nat.le_of_ble_eq_true rfl⟩ hl.1 rfl (Nat.le_of_ble_eq_true rfl) dX6_word_34 ⟨by show _ ≤ 22; omega, by show _ ≤ 132; omega⟩ (fun q8 H locs hz hk _ hS9 hR => ?_)
      have hS3 := qX_on qSt_k hS3 hz hk
      refine lv_astore (lv' := [(6, .ref q8), (5, .int r4), (0, .ref (ad 238)), (1, .int x1), (2, .int x2), (3, .ref q3), (4, .int x4)]) hx hb dX6_word_37 hl (by decide) rfl (fun ls hl => ?_)
      refine lv_iload hx hb dX6_word_39 (lv_at hl 6 rfl) ?_
      refine lv_if_eq (tgt := 58) hx hb dX6_word_41 (by decide) (fun c_10 => ?_) (fun c_10 => ?_)
      · have hf := qif_t hf c_10
        refine lv_iload hx hb dX6_word_58 (lv_at hl 6 rfl) ?_
        refine lv_istore_n (lv' := [(1, .int x4), (6, .ref q8), (5, .int r4), (0, .ref (ad 238)), (2, .int x2), (3, .ref q3), (4, .int x4)]) hx hb dX6_word_60 rfl hl (by decide) rfl (fun ls hl => ?_)
        refine lv_aload hx hb dX6_word_61 (lv_at hl 1 rfl) ?_
        refine lv_astore_n (lv' := [(3, .ref q8), (1, .int x4), (6, .ref q8), (5, .int r4), (0, .ref (ad 238)), (2, .int x2), (4, .int x4)]) hx hb dX6_word_63 rfl hl (by decide) rfl (fun ls hl => ?_)
        refine lv_iload hx hb dX6_word_64 (lv_at hl 3 rfl) ?_
        refine lv_iconst (v := 1) hx hb dX6_word_66 (by decide) ?_
        refine lv_iadd hx hb dX6_word_67 ?_
        refine lv_topi (fun x11 ex11 => ?_)
        have hf := qnm_t hf ex11
        refine lv_istore_n (lv' := [(2, .int x11), (3, .ref q8), (1, .int x4), (6, .ref q8), (5, .int r4), (0, .ref (ad 238)), (4, .int x4)]) hx hb dX6_word_68 rfl hl (by decide) rfl (fun ls hl => ?_)
        obtain ⟨x12, ex12⟩ : ∃ y : Int32, y = x4 + 1 := ⟨_, rfl⟩
        have hf := qnm_t hf ex12
        refine lv_iinc (v := x12) (lv' := [(4, .int x12), (2, .int x11), (3, .ref q8), (1, .int x4), (6, .ref q8), (5, .int r4), (0, .ref (ad 238))]) hx hb dX6_word_69 hl (k := 6) rfl (by rw [ex12]; rfl) (by decide) rfl (fun ls hl => ?_)
        refine lv_goto (tgt := 10) hx hb dX6_word_72 (by decide) ?_
        exact ih _ _ _ _ _ _ _ _ _ _ _ hf hR (lv_sub hl [6, 3, 1, 2, 0] rfl) (by omega) (by omega) hS9
      · have hf := qif_f hf c_10
        refine lv_aload_n hx hb dX6_word_44 rfl (lv_at hl 2 rfl) ?_
        refine lv_aload hx hb dX6_word_45 (lv_at hl 0 rfl) ?_
        obtain ⟨r14, hq13, hf⟩ := qbd_s hf
        refine q_callYVi hC hR (mX6_common (qJ hC) hq13) qSt_k hS9 (va_recv hC.2.2.2.2.2.2.1 hR.1 (ci := 9) (q0 := 238) rfl (by rw [qat G ad _ (by decide), (qsh_238 G ad _)])) qk_1730 qk_1732 qk_49 qk_64 qk_1733 qhd_X6_common ⟨Nat.le_of_ble_eq_true rfl, Nat.le_of_ble_eq_true rfl⟩ hl.1 rfl (Nat.le_of_ble_eq_true rfl) dX6_word_47 ⟨by show _ ≤ 22; omega, by show _ ≤ 132; omega⟩ (fun H locs hz hk hR => ?_)
        have hS9 := qX_on qSt_k hS9 hz hk
        have hS3 := qX_on qSt_k hS3 hz hk
        refine lv_aload_n hx hb dX6_word_50 rfl (lv_at hl 2 rfl) ?_
        refine lv_aload_n hx hb dX6_word_51 rfl (lv_at hl 5 rfl) ?_
        obtain ⟨r16, hq15, hf⟩ := qbd_s hf
        refine q_callYVi hC hR (mX6_common (qJ hC) hq15) qSt_k hS3 (va_recv hC.2.2.2.2.2.2.1 hR.1 (ci := 9) (q0 := 238) rfl (by rw [qat G ad _ (by decide), (qsh_238 G ad _)])) qk_1730 qk_1732 qk_49 qk_64 qk_1733 qhd_X6_common ⟨Nat.le_of_ble_eq_true rfl, Nat.le_of_ble_eq_true rfl⟩ hl.1 rfl (Nat.le_of_ble_eq_true rfl) dX6_word_52 ⟨by show _ ≤ 22; omega, by show _ ≤ 132; omega⟩ (fun H locs hz hk hR => ?_)
        have hS9 := qX_on qSt_k hS9 hz hk
        have hS3 := qX_on qSt_k hS3 hz hk
        refine lv_icmp_le (tgt := 64) hx hb dX6_word_55 (by decide) (fun c_17 => ?_) (fun c_17 => ?_)
        · have hf := qif_t hf c_17
          refine lv_iload hx hb dX6_word_64 (lv_at hl 1 rfl) ?_
          refine lv_iconst (v := 1) hx hb dX6_word_66 (by decide) ?_
          refine lv_iadd hx hb dX6_word_67 ?_
          refine lv_topi (fun x18 ex18 => ?_)
          have hf := qnm_t hf ex18
          refine lv_istore_n (lv' := [(2, .int x18), (6, .ref q8), (5, .int r4), (0, .ref (ad 238)), (1, .int x1), (3, .ref q3), (4, .int x4)]) hx hb dX6_word_68 rfl hl (by decide) rfl (fun ls hl => ?_)
          obtain ⟨x19, ex19⟩ : ∃ y : Int32, y = x4 + 1 := ⟨_, rfl⟩
          have hf := qnm_t hf ex19
          refine lv_iinc (v := x19) (lv' := [(4, .int x19), (2, .int x18), (6, .ref q8), (5, .int r4), (0, .ref (ad 238)), (1, .int x1), (3, .ref q3)]) hx hb dX6_word_69 hl (k := 6) rfl (by rw [ex19]; rfl) (by decide) rfl (fun ls hl => ?_)
          refine lv_goto (tgt := 10) hx hb dX6_word_72 (by decide) ?_
          exact ih _ _ _ _ _ _ _ _ _ _ _ hf hR (lv_sub hl [4, 5, 1, 6, 0] rfl) (by omega) (by omega) hS3
        · have hf := qif_f hf c_17
          refine lv_iload hx hb dX6_word_58 (lv_at hl 6 rfl) ?_
          refine lv_istore_n (lv' := [(1, .int x4), (6, .ref q8), (5, .int r4), (0, .ref (ad 238)), (2, .int x2), (3, .ref q3), (4, .int x4)]) hx hb dX6_word_60 rfl hl (by decide) rfl (fun ls hl => ?_)
          refine lv_aload hx hb dX6_word_61 (lv_at hl 1 rfl) ?_
          refine lv_astore_n (lv' := [(3, .ref q8), (1, .int x4), (6, .ref q8), (5, .int r4), (0, .ref (ad 238)), (2, .int x2), (4, .int x4)]) hx hb dX6_word_63 rfl hl (by decide) rfl (fun ls hl => ?_)
          refine lv_iload hx hb dX6_word_64 (lv_at hl 3 rfl) ?_
          refine lv_iconst (v := 1) hx hb dX6_word_66 (by decide) ?_
          refine lv_iadd hx hb dX6_word_67 ?_
          refine lv_topi (fun x20 ex20 => ?_)
          have hf := qnm_t hf ex20
          refine lv_istore_n (lv' := [(2, .int x20), (3, .ref q8), (1, .int x4), (6, .ref q8), (5, .int r4), (0, .ref (ad 238)), (4, .int x4)]) hx hb dX6_word_68 rfl hl (by decide) rfl (fun ls hl => ?_)
          obtain ⟨x21, ex21⟩ : ∃ y : Int32, y = x4 + 1 := ⟨_, rfl⟩
          have hf := qnm_t hf ex21
          refine lv_iinc (v := x21) (lv' := [(4, .int x21), (2, .int x20), (3, .ref q8), (1, .int x4), (6, .ref q8), (5, .int r4), (0, .ref (ad 238))]) hx hb dX6_word_69 hl (k := 6) rfl (by rw [ex21]; rfl) (by decide) rfl (fun ls hl => ?_)
          refine lv_goto (tgt := 10) hx hb dX6_word_72 (by decide) ?_
          exact ih _ _ _ _ _ _ _ _ _ _ _ hf hR (lv_sub hl [6, 3, 1, 2, 0] rfl) (by omega) (by omega) hS9
def fX6_word (w : qMem)   : Option (Int32 × qMem) :=
  fX6_word_L10 11 w 0 0 (qtx.getD 11 []) 0
theorem qhd_X6_word : yX6_word.cls ≠ "java/lang/invoke/MethodHandle" ∧ yX6_word.cls ≠ "java/lang/invoke/VarHandle" ∧ (parseMethodDescriptor yX6_word.desc).map (fun d => d.parameters.length) = some 0 := ⟨by decide +kernel, by decide +kernel, by decide +kernel⟩
set_option maxHeartbeats 4000000 in
set_option maxRecDepth 100000 in
theorem mX6_word {l : Launch} {D : va_G} {G : Nat → ClassId} {ad : Nat → Nat} (hJ : qInj ad) {w : qMem}    {rF : Int32} {wF : qMem} (hf : fX6_word w = some (rF, wF)) : qCMi l D G ad yX6_word cX6_word 7 (some .int) 6 22 132 [.ref (ad 238)] w rF wF := by
  refine q_start RX6 rfl (by decide +kernel) hJ (fun a b h => by simp only [qQI, qQV, qQR, qQD, qQF, h]) (Nat.le_of_ble_eq_true rfl) ?_
  intro p e s m args below meth c0 ls hC hr hR hl
  have hx := hC.1
  have hb := hC.2.1
  have hl : lv_has ls 7 [(0, .ref (ad 238))] := hl
  unfold fX6_word at hf
  refine lv_iconst (v := 0) hx hb dX6_word_0 (by decide) ?_
  refine lv_istore_n (lv' := [(1, .int 0), (0, .ref (ad 238))]) hx hb dX6_word_1 rfl hl (by decide) rfl (fun ls hl => ?_)
  refine lv_iconst (v := 0) hx hb dX6_word_2 (by decide) ?_
  refine lv_istore_n (lv' := [(2, .int 0), (1, .int 0), (0, .ref (ad 238))]) hx hb dX6_word_3 rfl hl (by decide) rfl (fun ls hl => ?_)
  refine va_ldcS (q := ad 1011) hx hb hC.2.2.2.1 (hC.2.2.2.2.2.2.2.2.2.1 ("QuakeRehearsalModel", 210, "", 11) (by decide +kernel)) dX6_word_4 ?_
  refine lv_astore_n (lv' := [(3, .ref (ad 1011)), (2, .int 0), (1, .int 0), (0, .ref (ad 238))]) hx hb dX6_word_6 rfl hl (by decide) rfl (fun ls hl => ?_)
  refine lv_iconst (v := 0) hx hb dX6_word_7 (by decide) ?_
  refine lv_istore (lv' := [(4, .int 0), (3, .ref (ad 1011)), (2, .int 0), (1, .int 0), (0, .ref (ad 238))]) hx hb dX6_word_8 hl (by decide) rfl (fun ls hl => ?_)
  exact mX6_word_L10 hC hr 11 _ _ _ _ _ _ _ _ _ _ _ hf hR (lv_sub hl [4, 3, 2, 1, 0] rfl) (Nat.le_of_ble_eq_true rfl) (Nat.le_of_ble_eq_true rfl) (qX_now qSt_k (qSt_of hC (show 11 < 14 by decide)) hR)
-- X6.readOrder
def fX6_readOrder_L84   (w : qMem) (x1 : Int32) (x2 : Int32) : Option (qMem) :=
  if x2 < 3 then
    qbd (fX6_skip w (qtx.getD 12 [])) fun (w20 : qMem) =>
    qbd2 (fX6_digit w20) fun (r22 : Int32) (w23 : qMem) =>
    if qin (x1 + 2) 180 = true then
    qnm (quw w23 246 (x1 + 2).toNatClampNeg r22) fun (w25 : qMem) =>
    some w25
    else none
  else
    if x2 = 4 then
      qbd (fX6_skip w (qtx.getD 12 [])) fun (w28 : qMem) =>
      qbd2 (fX6_digit w28) fun (r30 : Int32) (w31 : qMem) =>
      if qin (x1 + 2) 180 = true then
      qnm (quw w31 246 (x1 + 2).toNatClampNeg r30) fun (w33 : qMem) =>
      some w33
      else none
    else
      some w
set_option maxHeartbeats 4000000 in
set_option maxRecDepth 100000 in
theorem mX6_readOrder_L84 {p : Program} {l : Launch} {e : Env} {s : State} {m : MethodId} {args : Array Value} {below : List Frame} {meth : Method} {c0 : Code} {D : va_G} {G : Nat → ClassId} {ad : Nat → Nat}   {wF : qMem}  (hC : qCx p c0 cX6_readOrder 3 s m args meth RX6 D G ad) (hr : meth.sig.returnType = none)  : ∀ (w : qMem) (x1 : Int32) (x2 : Int32) (H : Heap) (locs : List Loc) (ls : Array Slot), fX6_readOrder_L84 w x1 x2 = some wF → qRp D G ad s w H locs → lv_has ls 3 [(0, .ref (ad 238)), (1, .int x1), (2, .int x2)] → W p l e (qrm 7 22 132) s m args below meth c0 H locs 22 132 (MQ below (qQV D G ad s wF) args s 22 132 (qAdr ad s.heap.size)) (F0 m 84 ls []) := by
  have hx := hC.1
  have hb := hC.2.1
  intro w x1 x2 H locs ls hf hR hl
  unfold fX6_readOrder_L84 at hf
  refine lv_iload_n hx hb dX6_readOrder_84 rfl (lv_at hl 2 rfl) ?_
  refine lv_iconst (v := 3) hx hb dX6_readOrder_85 (by decide) ?_
  refine lv_icmp_lt (tgt := 94) hx hb dX6_readOrder_86 (by decide) (fun c_18 => ?_) (fun c_18 => ?_)
  · have hf := qif_t hf c_18
    refine lv_aload_n hx hb dX6_readOrder_94 rfl (lv_at hl 0 rfl) ?_
    refine va_ldcS (q := ad 1012) hx hb hC.2.2.2.1 (hC.2.2.2.2.2.2.2.2.2.1 ("QuakeRehearsalModel", 238, " ", 12) (by decide +kernel)) dX6_readOrder_95 ?_
    obtain ⟨w20, hq19, hf⟩ := qbd_s hf
    refine q_callYVv hC hR (mX6_skip (qJ hC) hq19) qSt_k (qX_now qSt_k (qSt_of hC (show 12 < 14 by decide)) hR) (va_recv hC.2.2.2.2.2.2.1 hR.1 (ci := 9) (q0 := 238) rfl (by rw [qat G ad _ (by decide), (qsh_238 G ad _)])) qk_1734 qk_1736 qk_50 qk_64 qk_1737 qhd_X6_skip ⟨Nat.le_of_ble_eq_true rfl, Nat.le_of_ble_eq_true rfl⟩ hl.1 rfl (Nat.le_of_ble_eq_true rfl) dX6_readOrder_97 ⟨Nat.le_of_ble_eq_true rfl, Nat.le_of_ble_eq_true rfl⟩ (fun H locs hz hk hR => ?_)
    refine lv_aload_n hx hb dX6_readOrder_100 rfl (lv_at hl 0 rfl) ?_
    refine qget_X6_19 hC hR qk_1144 dX6_readOrder_101 ?_
    refine lv_iload_n hx hb dX6_readOrder_104 rfl (lv_at hl 1 rfl) ?_
    refine lv_iconst (v := 2) hx hb dX6_readOrder_105 (by decide) ?_
    refine lv_iadd hx hb dX6_readOrder_106 ?_
    refine lv_aload_n hx hb dX6_readOrder_107 rfl (lv_at hl 0 rfl) ?_
    obtain ⟨r22, w23, hq21, hf⟩ := qbd2_s hf
    refine q_callVi hC hR (mX6_digit (qJ hC) hq21) (by decide) (qsh_238 G ad _) rfl qk_1751 qk_1753 qk_54 qk_64 qk_1754 qhd_X6_digit ⟨Nat.le_of_ble_eq_true rfl, Nat.le_of_ble_eq_true rfl⟩ hl.1 rfl (Nat.le_of_ble_eq_true rfl) dX6_readOrder_108 ⟨Nat.le_of_ble_eq_true rfl, Nat.le_of_ble_eq_true rfl⟩ (fun H locs hR => ?_)
    obtain ⟨g24, hf⟩ := qgd hf
    refine q_ist hC hR (j := (x1 + 2).toNatClampNeg) (by decide) (fun f => qsh_246 G ad f) g24 rfl dX6_readOrder_111 (fun w25 H locs ew25 hR => ?_)
    have hf := qnm_t hf ew25
    refine W.widen (k := 22) (n := 132) (Nat.le_of_ble_eq_true rfl) (Nat.le_of_ble_eq_true rfl) ?_
    exact q_vret hC hR hr (qso hf) dX6_readOrder_112
  · have hf := qif_f hf c_18
    refine lv_iload_n hx hb dX6_readOrder_89 rfl (lv_at hl 2 rfl) ?_
    refine lv_iconst (v := 4) hx hb dX6_readOrder_90 (by decide) ?_
    refine lv_icmp_ne (tgt := 112) hx hb dX6_readOrder_91 (by decide) (fun c_26 => ?_) (fun c_26 => ?_)
    · have hf := qif_f hf c_26
      refine W.widen (k := 22) (n := 132) (Nat.le_of_ble_eq_true rfl) (Nat.le_of_ble_eq_true rfl) ?_
      exact q_vret hC hR hr (qso hf) dX6_readOrder_112
    · have hf := qif_t hf c_26
      refine lv_aload_n hx hb dX6_readOrder_94 rfl (lv_at hl 0 rfl) ?_
      refine va_ldcS (q := ad 1012) hx hb hC.2.2.2.1 (hC.2.2.2.2.2.2.2.2.2.1 ("QuakeRehearsalModel", 238, " ", 12) (by decide +kernel)) dX6_readOrder_95 ?_
      obtain ⟨w28, hq27, hf⟩ := qbd_s hf
      refine q_callYVv hC hR (mX6_skip (qJ hC) hq27) qSt_k (qX_now qSt_k (qSt_of hC (show 12 < 14 by decide)) hR) (va_recv hC.2.2.2.2.2.2.1 hR.1 (ci := 9) (q0 := 238) rfl (by rw [qat G ad _ (by decide), (qsh_238 G ad _)])) qk_1734 qk_1736 qk_50 qk_64 qk_1737 qhd_X6_skip ⟨Nat.le_of_ble_eq_true rfl, Nat.le_of_ble_eq_true rfl⟩ hl.1 rfl (Nat.le_of_ble_eq_true rfl) dX6_readOrder_97 ⟨Nat.le_of_ble_eq_true rfl, Nat.le_of_ble_eq_true rfl⟩ (fun H locs hz hk hR => ?_)
      refine lv_aload_n hx hb dX6_readOrder_100 rfl (lv_at hl 0 rfl) ?_
      refine qget_X6_19 hC hR qk_1144 dX6_readOrder_101 ?_
      refine lv_iload_n hx hb dX6_readOrder_104 rfl (lv_at hl 1 rfl) ?_
      refine lv_iconst (v := 2) hx hb dX6_readOrder_105 (by decide) ?_
      refine lv_iadd hx hb dX6_readOrder_106 ?_
      refine lv_aload_n hx hb dX6_readOrder_107 rfl (lv_at hl 0 rfl) ?_
      obtain ⟨r30, w31, hq29, hf⟩ := qbd2_s hf
      refine q_callVi hC hR (mX6_digit (qJ hC) hq29) (by decide) (qsh_238 G ad _) rfl qk_1751 qk_1753 qk_54 qk_64 qk_1754 qhd_X6_digit ⟨Nat.le_of_ble_eq_true rfl, Nat.le_of_ble_eq_true rfl⟩ hl.1 rfl (Nat.le_of_ble_eq_true rfl) dX6_readOrder_108 ⟨Nat.le_of_ble_eq_true rfl, Nat.le_of_ble_eq_true rfl⟩ (fun H locs hR => ?_)
      obtain ⟨g32, hf⟩ := qgd hf
      refine q_ist hC hR (j := (x1 + 2).toNatClampNeg) (by decide) (fun f => qsh_246 G ad f) g32 rfl dX6_readOrder_111 (fun w33 H locs ew33 hR => ?_)
      have hf := qnm_t hf ew33
      refine W.widen (k := 22) (n := 132) (Nat.le_of_ble_eq_true rfl) (Nat.le_of_ble_eq_true rfl) ?_
      exact q_vret hC hR hr (qso hf) dX6_readOrder_112
def fX6_readOrder_L49   (w : qMem) (x1 : Int32) (x2 : Int32) : Option (qMem) :=
  qbd (fX6_skip w (qtx.getD 12 [])) fun (w11 : qMem) =>
  if x2 = 3 then
    qbd2 (fX6_number w11) fun (r14 : Int32) (w15 : qMem) =>
    if qin (x1 + 1) 180 = true then
    qnm (quw w15 246 (x1 + 1).toNatClampNeg r14) fun (w17 : qMem) =>
    fX6_readOrder_L84 w17 x1 x2
    else none
  else
    if x2 = 4 then
      qbd2 (fX6_number w11) fun (r41 : Int32) (w42 : qMem) =>
      if qin (x1 + 1) 180 = true then
      qnm (quw w42 246 (x1 + 1).toNatClampNeg r41) fun (w44 : qMem) =>
      fX6_readOrder_L84 w44 x1 x2
      else none
    else
      qbd2 (fX6_digit w11) fun (r36 : Int32) (w37 : qMem) =>
      if qin (x1 + 1) 180 = true then
      qnm (quw w37 246 (x1 + 1).toNatClampNeg r36) fun (w39 : qMem) =>
      fX6_readOrder_L84 w39 x1 x2
      else none
set_option maxHeartbeats 4000000 in
set_option maxRecDepth 100000 in
theorem mX6_readOrder_L49 {p : Program} {l : Launch} {e : Env} {s : State} {m : MethodId} {args : Array Value} {below : List Frame} {meth : Method} {c0 : Code} {D : va_G} {G : Nat → ClassId} {ad : Nat → Nat}   {wF : qMem}  (hC : qCx p c0 cX6_readOrder 3 s m args meth RX6 D G ad) (hr : meth.sig.returnType = none)  : ∀ (w : qMem) (x1 : Int32) (x2 : Int32) (H : Heap) (locs : List Loc) (ls : Array Slot), fX6_readOrder_L49 w x1 x2 = some wF → qRp D G ad s w H locs → lv_has ls 3 [(0, .ref (ad 238)), (1, .int x1), (2, .int x2)] → W p l e (qrm 7 22 132) s m args below meth c0 H locs 22 132 (MQ below (qQV D G ad s wF) args s 22 132 (qAdr ad s.heap.size)) (F0 m 49 ls []) := by
  have hx := hC.1
  have hb := hC.2.1
  intro w x1 x2 H locs ls hf hR hl
  unfold fX6_readOrder_L49 at hf
  refine lv_aload_n hx hb dX6_readOrder_49 rfl (lv_at hl 0 rfl) ?_
  refine va_ldcS (q := ad 1012) hx hb hC.2.2.2.1 (hC.2.2.2.2.2.2.2.2.2.1 ("QuakeRehearsalModel", 238, " ", 12) (by decide +kernel)) dX6_readOrder_50 ?_
  obtain ⟨w11, hq10, hf⟩ := qbd_s hf
  refine q_callYVv hC hR (mX6_skip (qJ hC) hq10) qSt_k (qX_now qSt_k (qSt_of hC (show 12 < 14 by decide)) hR) (va_recv hC.2.2.2.2.2.2.1 hR.1 (ci := 9) (q0 := 238) rfl (by rw [qat G ad _ (by decide), (qsh_238 G ad _)])) qk_1734 qk_1736 qk_50 qk_64 qk_1737 qhd_X6_skip ⟨Nat.le_of_ble_eq_true rfl, Nat.le_of_ble_eq_true rfl⟩ hl.1 rfl (Nat.le_of_ble_eq_true rfl) dX6_readOrder_52 ⟨Nat.le_of_ble_eq_true rfl, Nat.le_of_ble_eq_true rfl⟩ (fun H locs hz hk hR => ?_)
  refine lv_aload_n hx hb dX6_readOrder_55 rfl (lv_at hl 0 rfl) ?_
  refine qget_X6_19 hC hR qk_1144 dX6_readOrder_56 ?_
  refine lv_iload_n hx hb dX6_readOrder_59 rfl (lv_at hl 1 rfl) ?_
  refine lv_iconst (v := 1) hx hb dX6_readOrder_60 (by decide) ?_
  refine lv_iadd hx hb dX6_readOrder_61 ?_
  refine lv_iload_n hx hb dX6_readOrder_62 rfl (lv_at hl 2 rfl) ?_
  refine lv_iconst (v := 3) hx hb dX6_readOrder_63 (by decide) ?_
  refine lv_icmp_eq (tgt := 72) hx hb dX6_readOrder_64 (by decide) (fun c_12 => ?_) (fun c_12 => ?_)
  · have hf := qif_t hf c_12
    refine lv_aload_n hx hb dX6_readOrder_72 rfl (lv_at hl 0 rfl) ?_
    obtain ⟨r14, w15, hq13, hf⟩ := qbd2_s hf
    refine q_callVi hC hR (mX6_number (qJ hC) hq13) (by decide) (qsh_238 G ad _) rfl qk_1747 qk_1749 qk_53 qk_64 qk_1750 qhd_X6_number ⟨Nat.le_of_ble_eq_true rfl, Nat.le_of_ble_eq_true rfl⟩ hl.1 rfl (Nat.le_of_ble_eq_true rfl) dX6_readOrder_73 ⟨Nat.le_of_ble_eq_true rfl, Nat.le_of_ble_eq_true rfl⟩ (fun H locs hR => ?_)
    refine lv_goto (tgt := 83) hx hb dX6_readOrder_76 (by decide) ?_
    obtain ⟨g16, hf⟩ := qgd hf
    refine q_ist hC hR (j := (x1 + 1).toNatClampNeg) (by decide) (fun f => qsh_246 G ad f) g16 rfl dX6_readOrder_83 (fun w17 H locs ew17 hR => ?_)
    have hf := qnm_t hf ew17
    exact mX6_readOrder_L84 hC hr _ _ _ _ _ _ hf hR (lv_sub hl [0, 1, 2] rfl)
  · have hf := qif_f hf c_12
    refine lv_iload_n hx hb dX6_readOrder_67 rfl (lv_at hl 2 rfl) ?_
    refine lv_iconst (v := 4) hx hb dX6_readOrder_68 (by decide) ?_
    refine lv_icmp_ne (tgt := 79) hx hb dX6_readOrder_69 (by decide) (fun c_34 => ?_) (fun c_34 => ?_)
    · have hf := qif_f hf c_34
      refine lv_aload_n hx hb dX6_readOrder_79 rfl (lv_at hl 0 rfl) ?_
      obtain ⟨r36, w37, hq35, hf⟩ := qbd2_s hf
      refine q_callVi hC hR (mX6_digit (qJ hC) hq35) (by decide) (qsh_238 G ad _) rfl qk_1751 qk_1753 qk_54 qk_64 qk_1754 qhd_X6_digit ⟨Nat.le_of_ble_eq_true rfl, Nat.le_of_ble_eq_true rfl⟩ hl.1 rfl (Nat.le_of_ble_eq_true rfl) dX6_readOrder_80 ⟨Nat.le_of_ble_eq_true rfl, Nat.le_of_ble_eq_true rfl⟩ (fun H locs hR => ?_)
      obtain ⟨g38, hf⟩ := qgd hf
      refine q_ist hC hR (j := (x1 + 1).toNatClampNeg) (by decide) (fun f => qsh_246 G ad f) g38 rfl dX6_readOrder_83 (fun w39 H locs ew39 hR => ?_)
      have hf := qnm_t hf ew39
      exact mX6_readOrder_L84 hC hr _ _ _ _ _ _ hf hR (lv_sub hl [0, 1, 2] rfl)
    · have hf := qif_t hf c_34
      refine lv_aload_n hx hb dX6_readOrder_72 rfl (lv_at hl 0 rfl) ?_
      obtain ⟨r41, w42, hq40, hf⟩ := qbd2_s hf
      refine q_callVi hC hR (mX6_number (qJ hC) hq40) (by decide) (qsh_238 G ad _) rfl qk_1747 qk_1749 qk_53 qk_64 qk_1750 qhd_X6_number ⟨Nat.le_of_ble_eq_true rfl, Nat.le_of_ble_eq_true rfl⟩ hl.1 rfl (Nat.le_of_ble_eq_true rfl) dX6_readOrder_73 ⟨Nat.le_of_ble_eq_true rfl, Nat.le_of_ble_eq_true rfl⟩ (fun H locs hR => ?_)
      refine lv_goto (tgt := 83) hx hb dX6_readOrder_76 (by decide) ?_
      obtain ⟨g43, hf⟩ := qgd hf
      refine q_ist hC hR (j := (x1 + 1).toNatClampNeg) (by decide) (fun f => qsh_246 G ad f) g43 rfl dX6_readOrder_83 (fun w44 H locs ew44 hR => ?_)
      have hf := qnm_t hf ew44
      exact mX6_readOrder_L84 hC hr _ _ _ _ _ _ hf hR (lv_sub hl [0, 1, 2] rfl)
def fX6_readOrder (w : qMem)   : Option (qMem) :=
  if w 238 17 = 0 then
    qnm (3 * (w 238 20)) fun (x2 : Int32) =>
    qnm (quw w 238 20 ((w 238 20) + 1)) fun (w3 : qMem) =>
    qbd2 (fX6_word w3) fun (r5 : Int32) (w6 : qMem) =>
    if qin x2 180 = true then
    qnm (quw w6 246 (x2).toNatClampNeg r5) fun (w8 : qMem) =>
    if r5 < 6 then
      fX6_readOrder_L49 w8 x2 r5
    else
      if r5 = 7 then
        fX6_readOrder_L49 w8 x2 r5
      else
        fX6_readOrder_L84 w8 x2 r5
    else none
  else
    some w
theorem qhd_X6_readOrder : yX6_readOrder.cls ≠ "java/lang/invoke/MethodHandle" ∧ yX6_readOrder.cls ≠ "java/lang/invoke/VarHandle" ∧ (parseMethodDescriptor yX6_readOrder.desc).map (fun d => d.parameters.length) = some 0 := ⟨by decide +kernel, by decide +kernel, by decide +kernel⟩
set_option maxHeartbeats 4000000 in
set_option maxRecDepth 100000 in
theorem mX6_readOrder {l : Launch} {D : va_G} {G : Nat → ClassId} {ad : Nat → Nat} (hJ : qInj ad) {w : qMem}    {wF : qMem} (hf : fX6_readOrder w = some wF) : qCMv l D G ad yX6_readOrder cX6_readOrder 3 (none) 7 22 132 [.ref (ad 238)] w wF := by
  refine q_start RX6 rfl (by decide +kernel) hJ (fun a b h => by simp only [qQI, qQV, qQR, qQD, qQF, h]) (Nat.le_of_ble_eq_true rfl) ?_
  intro p e s m args below meth c0 ls hC hr hR hl
  have hx := hC.1
  have hb := hC.2.1
  have hl : lv_has ls 3 [(0, .ref (ad 238))] := hl
  unfold fX6_readOrder at hf
  refine lv_aload_n hx hb dX6_readOrder_0 rfl (lv_at hl 0 rfl) ?_
  refine qget_X6_17 hC hR qk_1142 dX6_readOrder_1 ?_
  refine lv_if_eq (tgt := 8) hx hb dX6_readOrder_4 (by decide) (fun c_1 => ?_) (fun c_1 => ?_)
  · have hf := qif_t hf c_1
    refine lv_iconst (v := 3) hx hb dX6_readOrder_8 (by decide) ?_
    refine lv_aload_n hx hb dX6_readOrder_9 rfl (lv_at hl 0 rfl) ?_
    refine qget_X6_20 hC hR qk_1145 dX6_readOrder_10 ?_
    refine lv_imul hx hb dX6_readOrder_13 ?_
    refine lv_topi (fun x2 ex2 => ?_)
    have hf := qnm_t hf ex2
    refine lv_istore_n (lv' := [(1, .int x2), (0, .ref (ad 238))]) hx hb dX6_readOrder_14 rfl hl (by decide) rfl (fun ls hl => ?_)
    refine lv_aload_n hx hb dX6_readOrder_15 rfl (lv_at hl 1 rfl) ?_
    refine lv_dup hx hb dX6_readOrder_16 rfl ?_
    refine qget_X6_20 hC hR qk_1145 dX6_readOrder_17 ?_
    refine lv_iconst (v := 1) hx hb dX6_readOrder_20 (by decide) ?_
    refine lv_iadd hx hb dX6_readOrder_21 ?_
    refine qput_X6_20 hC hR qk_1145 ⟨rfl, rfl⟩ dX6_readOrder_22 (fun w3 H locs ew3 hR => ?_)
    have hf := qnm_t hf ew3
    refine lv_aload_n hx hb dX6_readOrder_25 rfl (lv_at hl 1 rfl) ?_
    obtain ⟨r5, w6, hq4, hf⟩ := qbd2_s hf
    refine q_callVi hC hR (mX6_word (qJ hC) hq4) (by decide) (qsh_238 G ad _) rfl qk_1451 qk_1453 qk_48 qk_64 qk_1454 qhd_X6_word ⟨Nat.le_of_ble_eq_true rfl, Nat.le_of_ble_eq_true rfl⟩ hl.1 rfl (Nat.le_of_ble_eq_true rfl) dX6_readOrder_26 ⟨Nat.le_of_ble_eq_true rfl, Nat.le_of_ble_eq_true rfl⟩ (fun H locs hR => ?_)
    refine lv_istore_n (lv' := [(2, .int r5), (1, .int x2), (0, .ref (ad 238))]) hx hb dX6_readOrder_29 rfl hl (by decide) rfl (fun ls hl => ?_)
    refine lv_aload_n hx hb dX6_readOrder_30 rfl (lv_at hl 2 rfl) ?_
    refine qget_X6_19 hC hR qk_1144 dX6_readOrder_31 ?_
    refine lv_iload_n hx hb dX6_readOrder_34 rfl (lv_at hl 1 rfl) ?_
    refine lv_iload_n hx hb dX6_readOrder_35 rfl (lv_at hl 0 rfl) ?_
    obtain ⟨g7, hf⟩ := qgd hf
    refine q_ist hC hR (j := (x2).toNatClampNeg) (by decide) (fun f => qsh_246 G ad f) g7 rfl dX6_readOrder_36 (fun w8 H locs ew8 hR => ?_)
    have hf := qnm_t hf ew8
    refine lv_iload_n hx hb dX6_readOrder_37 rfl (lv_at hl 0 rfl) ?_
    refine lv_bipush (v := 6) hx hb dX6_readOrder_38 (by decide) ?_
    refine lv_icmp_lt (tgt := 49) hx hb dX6_readOrder_40 (by decide) (fun c_9 => ?_) (fun c_9 => ?_)
    · have hf := qif_t hf c_9
      exact mX6_readOrder_L49 hC hr _ _ _ _ _ _ hf hR (lv_sub hl [2, 1, 0] rfl)
    · have hf := qif_f hf c_9
      refine lv_iload_n hx hb dX6_readOrder_43 rfl (lv_at hl 0 rfl) ?_
      refine lv_bipush (v := 7) hx hb dX6_readOrder_44 (by decide) ?_
      refine lv_icmp_ne (tgt := 84) hx hb dX6_readOrder_46 (by decide) (fun c_45 => ?_) (fun c_45 => ?_)
      · have hf := qif_f hf c_45
        exact mX6_readOrder_L84 hC hr _ _ _ _ _ _ hf hR (lv_sub hl [2, 1, 0] rfl)
      · have hf := qif_t hf c_45
        exact mX6_readOrder_L49 hC hr _ _ _ _ _ _ hf hR (lv_sub hl [2, 1, 0] rfl)
  · have hf := qif_f hf c_1
    refine W.widen (k := 22) (n := 132) (Nat.le_of_ble_eq_true rfl) (Nat.le_of_ble_eq_true rfl) ?_
    exact q_vret hC hR hr (qso hf) dX6_readOrder_7
-- X6.does
def fX6_does (w : qMem)  (a1 : Int32) : Option (qMem) :=
  if qin ((3 * a1) + 1) 180 = true then
  qnm (w 246 ((3 * a1) + 1).toNatClampNeg) fun (x2 : Int32) =>
  if qin ((3 * a1) + 2) 180 = true then
  qnm (w 246 ((3 * a1) + 2).toNatClampNeg) fun (x4 : Int32) =>
  if qin (3 * a1) 180 = true then
  if w 246 (3 * a1).toNatClampNeg = 3 then
    qbd2 (fX6_doTake w x2) fun (r8 : Int32) (w9 : qMem) =>
    some w9
  else
  if w 246 (3 * a1).toNatClampNeg = 4 then
    qbd2 (fX6_doCue w x2 x4) fun (r12 : Int32) (w13 : qMem) =>
    some w13
  else
  if w 246 (3 * a1).toNatClampNeg = 5 then
    qbd2 (fX6_doSet w x2) fun (r16 : Int32) (w17 : qMem) =>
    some w17
  else
  if w 246 (3 * a1).toNatClampNeg = 6 then
    qbd2 (fX6_shocks w (w 239 1)) fun (r20 : Int32) (w21 : qMem) =>
    some w21
  else
  if w 246 (3 * a1).toNatClampNeg = 7 then
    qbd2 (fX6_doAdd w x2) fun (r24 : Int32) (w25 : qMem) =>
    some w25
  else
  if w 246 (3 * a1).toNatClampNeg = 8 then
    qbd2 (fX6_doPerform w) fun (r28 : Int32) (w29 : qMem) =>
    some w29
  else
  if w 246 (3 * a1).toNatClampNeg = 9 then
    qbd2 (fX6_doQuiet w) fun (r32 : Int32) (w33 : qMem) =>
    some w33
  else
  if qin (3 * a1) 180 = true then
  if w 246 (3 * a1).toNatClampNeg = 0 then
    qbd2 (fX6_comes w 1 x2 x4) fun (r45 : Int32) (w46 : qMem) =>
    some w46
  else
    if qin (3 * a1) 180 = true then
    if w 246 (3 * a1).toNatClampNeg = 1 then
      qbd2 (fX6_comes w 2 x2 x4) fun (r42 : Int32) (w43 : qMem) =>
      some w43
    else
      qbd2 (fX6_comes w 3 x2 x4) fun (r39 : Int32) (w40 : qMem) =>
      some w40
    else none
  else none
  else none
  else none
  else none
theorem qhd_X6_does : yX6_does.cls ≠ "java/lang/invoke/MethodHandle" ∧ yX6_does.cls ≠ "java/lang/invoke/VarHandle" ∧ (parseMethodDescriptor yX6_does.desc).map (fun d => d.parameters.length) = some 1 := ⟨by decide +kernel, by decide +kernel, by decide +kernel⟩
set_option maxHeartbeats 4000000 in
set_option maxRecDepth 100000 in
theorem mX6_does {l : Launch} {D : va_G} {G : Nat → ClassId} {ad : Nat → Nat} (hJ : qInj ad) {w : qMem}   {a1 : Int32} {wF : qMem} (hf : fX6_does w a1 = some wF) : qCMv l D G ad yX6_does cX6_does 5 (none) 6 0 0 [.ref (ad 238), .int a1] w wF := by
  refine q_start RX6 rfl (by decide +kernel) hJ (fun a b h => by simp only [qQI, qQV, qQR, qQD, qQF, h]) (Nat.le_of_ble_eq_true rfl) ?_
  intro p e s m args below meth c0 ls hC hr hR hl
  have hx := hC.1
  have hb := hC.2.1
  have hl : lv_has ls 5 [(0, .ref (ad 238)), (1, .int a1)] := hl
  unfold fX6_does at hf
  refine lv_aload_n hx hb dX6_does_0 rfl (lv_at hl 0 rfl) ?_
  refine qget_X6_19 hC hR qk_1144 dX6_does_1 ?_
  refine lv_iconst (v := 3) hx hb dX6_does_4 (by decide) ?_
  refine lv_iload_n hx hb dX6_does_5 rfl (lv_at hl 1 rfl) ?_
  refine lv_imul hx hb dX6_does_6 ?_
  refine lv_iconst (v := 1) hx hb dX6_does_7 (by decide) ?_
  refine lv_iadd hx hb dX6_does_8 ?_
  obtain ⟨g1, hf⟩ := qgd hf
  refine q_ild hC hR (j := ((3 * a1) + 1).toNatClampNeg) (by decide) (qsh_246 G ad _) g1 rfl dX6_does_9 ?_
  refine lv_topi (fun x2 ex2 => ?_)
  have hf := qnm_t hf ex2
  refine lv_istore_n (lv' := [(2, .int x2), (0, .ref (ad 238)), (1, .int a1)]) hx hb dX6_does_10 rfl hl (by decide) rfl (fun ls hl => ?_)
  refine lv_aload_n hx hb dX6_does_11 rfl (lv_at hl 1 rfl) ?_
  refine qget_X6_19 hC hR qk_1144 dX6_does_12 ?_
  refine lv_iconst (v := 3) hx hb dX6_does_15 (by decide) ?_
  refine lv_iload_n hx hb dX6_does_16 rfl (lv_at hl 2 rfl) ?_
  refine lv_imul hx hb dX6_does_17 ?_
  refine lv_iconst (v := 2) hx hb dX6_does_18 (by decide) ?_
  refine lv_iadd hx hb dX6_does_19 ?_
  obtain ⟨g3, hf⟩ := qgd hf
  refine q_ild hC hR (j := ((3 * a1) + 2).toNatClampNeg) (by decide) (qsh_246 G ad _) g3 rfl dX6_does_20 ?_
  refine lv_topi (fun x4 ex4 => ?_)
  have hf := qnm_t hf ex4
  refine lv_istore_n (lv' := [(3, .int x4), (2, .int x2), (0, .ref (ad 238)), (1, .int a1)]) hx hb dX6_does_21 rfl hl (by decide) rfl (fun ls hl => ?_)
  refine lv_aload_n hx hb dX6_does_22 rfl (lv_at hl 2 rfl) ?_
  refine qget_X6_19 hC hR qk_1144 dX6_does_23 ?_
  refine lv_iconst (v := 3) hx hb dX6_does_26 (by decide) ?_
  refine lv_iload_n hx hb dX6_does_27 rfl (lv_at hl 3 rfl) ?_
  refine lv_imul hx hb dX6_does_28 ?_
  obtain ⟨g5, hf⟩ := qgd hf
  refine q_ild hC hR (j := (3 * a1).toNatClampNeg) (by decide) (qsh_246 G ad _) g5 rfl dX6_does_29 ?_
  by_cases c_6 : w 246 (3 * a1).toNatClampNeg = 3
  · have hf := qif_t hf c_6
    refine lv_tableIn (off := 42) (tgt := 72) hx hb dX6_does_30 (by rw [c_6]; decide) (by rw [c_6]; decide) (by rw [c_6]; decide) (by decide) ?_
    refine lv_aload_n hx hb dX6_does_72 rfl (lv_at hl 2 rfl) ?_
    refine lv_iload_n hx hb dX6_does_73 rfl (lv_at hl 1 rfl) ?_
    obtain ⟨r8, w9, hq7, hf⟩ := qbd2_s hf
    refine q_callVi hC hR (mX6_doTake (qJ hC) hq7) (by decide) (qsh_238 G ad _) rfl qk_1254 qk_1256 qk_26 qk_64 qk_1257 qhd_X6_doTake ⟨Nat.le_of_ble_eq_true rfl, Nat.le_of_ble_eq_true rfl⟩ hl.1 rfl (Nat.le_of_ble_eq_true rfl) dX6_does_74 ⟨Nat.zero_le _, Nat.zero_le _⟩ (fun H locs hR => ?_)
    refine lv_istore (lv' := [(4, .int r8), (3, .int x4), (2, .int x2), (0, .ref (ad 238)), (1, .int a1)]) hx hb dX6_does_77 hl (by decide) rfl (fun ls hl => ?_)
    refine lv_goto (tgt := 186) hx hb dX6_does_79 (by decide) ?_
    exact q_vret hC hR hr (qso hf) dX6_does_186
  have hf := qif_f hf c_6
  by_cases c_10 : w 246 (3 * a1).toNatClampNeg = 4
  · have hf := qif_t hf c_10
    refine lv_tableIn (off := 52) (tgt := 82) hx hb dX6_does_30 (by rw [c_10]; decide) (by rw [c_10]; decide) (by rw [c_10]; decide) (by decide) ?_
    refine lv_aload_n hx hb dX6_does_82 rfl (lv_at hl 2 rfl) ?_
    refine lv_iload_n hx hb dX6_does_83 rfl (lv_at hl 1 rfl) ?_
    refine lv_iload_n hx hb dX6_does_84 rfl (lv_at hl 0 rfl) ?_
    obtain ⟨r12, w13, hq11, hf⟩ := qbd2_s hf
    refine q_callVi hC hR (mX6_doCue (qJ hC) hq11) (by decide) (qsh_238 G ad _) rfl qk_1266 qk_1268 qk_28 qk_64 qk_1269 qhd_X6_doCue ⟨Nat.le_of_ble_eq_true rfl, Nat.le_of_ble_eq_true rfl⟩ hl.1 rfl (Nat.le_of_ble_eq_true rfl) dX6_does_85 ⟨Nat.zero_le _, Nat.zero_le _⟩ (fun H locs hR => ?_)
    refine lv_istore (lv' := [(4, .int r12), (3, .int x4), (2, .int x2), (0, .ref (ad 238)), (1, .int a1)]) hx hb dX6_does_88 hl (by decide) rfl (fun ls hl => ?_)
    refine lv_goto (tgt := 186) hx hb dX6_does_90 (by decide) ?_
    exact q_vret hC hR hr (qso hf) dX6_does_186
  have hf := qif_f hf c_10
  by_cases c_14 : w 246 (3 * a1).toNatClampNeg = 5
  · have hf := qif_t hf c_14
    refine lv_tableIn (off := 63) (tgt := 93) hx hb dX6_does_30 (by rw [c_14]; decide) (by rw [c_14]; decide) (by rw [c_14]; decide) (by decide) ?_
    refine lv_aload_n hx hb dX6_does_93 rfl (lv_at hl 2 rfl) ?_
    refine lv_iload_n hx hb dX6_does_94 rfl (lv_at hl 1 rfl) ?_
    obtain ⟨r16, w17, hq15, hf⟩ := qbd2_s hf
    refine q_callVi hC hR (mX6_doSet (qJ hC) hq15) (by decide) (qsh_238 G ad _) rfl qk_1274 qk_1276 qk_29 qk_64 qk_1277 qhd_X6_doSet ⟨Nat.le_of_ble_eq_true rfl, Nat.le_of_ble_eq_true rfl⟩ hl.1 rfl (Nat.le_of_ble_eq_true rfl) dX6_does_95 ⟨Nat.zero_le _, Nat.zero_le _⟩ (fun H locs hR => ?_)
    refine lv_istore (lv' := [(4, .int r16), (3, .int x4), (2, .int x2), (0, .ref (ad 238)), (1, .int a1)]) hx hb dX6_does_98 hl (by decide) rfl (fun ls hl => ?_)
    refine lv_goto (tgt := 186) hx hb dX6_does_100 (by decide) ?_
    exact q_vret hC hR hr (qso hf) dX6_does_186
  have hf := qif_f hf c_14
  by_cases c_18 : w 246 (3 * a1).toNatClampNeg = 6
  · have hf := qif_t hf c_18
    refine lv_tableIn (off := 73) (tgt := 103) hx hb dX6_does_30 (by rw [c_18]; decide) (by rw [c_18]; decide) (by rw [c_18]; decide) (by decide) ?_
    refine lv_aload_n hx hb dX6_does_103 rfl (lv_at hl 2 rfl) ?_
    refine lv_aload_n hx hb dX6_does_104 rfl (lv_at hl 2 rfl) ?_
    refine qget_X6_0 hC hR qk_1125 dX6_does_105 ?_
    refine lv_iconst (v := 1) hx hb dX6_does_108 (by decide) ?_
    refine q_ild hC hR (j := 1) (by decide) (qsh_239 G ad _) (by decide) (by decide) dX6_does_109 ?_
    obtain ⟨r20, w21, hq19, hf⟩ := qbd2_s hf
    refine q_callVi hC hR (mX6_shocks (qJ hC) hq19) (by decide) (qsh_238 G ad _) rfl qk_1285 qk_1287 qk_30 qk_64 qk_1288 qhd_X6_shocks ⟨Nat.le_of_ble_eq_true rfl, Nat.le_of_ble_eq_true rfl⟩ hl.1 rfl (Nat.le_of_ble_eq_true rfl) dX6_does_110 ⟨Nat.zero_le _, Nat.zero_le _⟩ (fun H locs hR => ?_)
    refine lv_istore (lv' := [(4, .int r20), (3, .int x4), (2, .int x2), (0, .ref (ad 238)), (1, .int a1)]) hx hb dX6_does_113 hl (by decide) rfl (fun ls hl => ?_)
    refine lv_goto (tgt := 186) hx hb dX6_does_115 (by decide) ?_
    exact q_vret hC hR hr (qso hf) dX6_does_186
  have hf := qif_f hf c_18
  by_cases c_22 : w 246 (3 * a1).toNatClampNeg = 7
  · have hf := qif_t hf c_22
    refine lv_tableIn (off := 88) (tgt := 118) hx hb dX6_does_30 (by rw [c_22]; decide) (by rw [c_22]; decide) (by rw [c_22]; decide) (by decide) ?_
    refine lv_aload_n hx hb dX6_does_118 rfl (lv_at hl 2 rfl) ?_
    refine lv_iload_n hx hb dX6_does_119 rfl (lv_at hl 1 rfl) ?_
    obtain ⟨r24, w25, hq23, hf⟩ := qbd2_s hf
    refine q_callVi hC hR (mX6_doAdd (qJ hC) hq23) (by decide) (qsh_238 G ad _) rfl qk_1313 qk_1315 qk_35 qk_64 qk_1316 qhd_X6_doAdd ⟨Nat.le_of_ble_eq_true rfl, Nat.le_of_ble_eq_true rfl⟩ hl.1 rfl (Nat.le_of_ble_eq_true rfl) dX6_does_120 ⟨Nat.zero_le _, Nat.zero_le _⟩ (fun H locs hR => ?_)
    refine lv_istore (lv' := [(4, .int r24), (3, .int x4), (2, .int x2), (0, .ref (ad 238)), (1, .int a1)]) hx hb dX6_does_123 hl (by decide) rfl (fun ls hl => ?_)
    refine lv_goto (tgt := 186) hx hb dX6_does_125 (by decide) ?_
    exact q_vret hC hR hr (qso hf) dX6_does_186
  have hf := qif_f hf c_22
  by_cases c_26 : w 246 (3 * a1).toNatClampNeg = 8
  · have hf := qif_t hf c_26
    refine lv_tableIn (off := 98) (tgt := 128) hx hb dX6_does_30 (by rw [c_26]; decide) (by rw [c_26]; decide) (by rw [c_26]; decide) (by decide) ?_
    refine lv_aload_n hx hb dX6_does_128 rfl (lv_at hl 2 rfl) ?_
    obtain ⟨r28, w29, hq27, hf⟩ := qbd2_s hf
    refine q_callVi hC hR (mX6_doPerform (qJ hC) hq27) (by decide) (qsh_238 G ad _) rfl qk_1321 qk_1323 qk_36 qk_64 qk_1324 qhd_X6_doPerform ⟨Nat.le_of_ble_eq_true rfl, Nat.le_of_ble_eq_true rfl⟩ hl.1 rfl (Nat.le_of_ble_eq_true rfl) dX6_does_129 ⟨Nat.zero_le _, Nat.zero_le _⟩ (fun H locs hR => ?_)
    refine lv_istore (lv' := [(4, .int r28), (3, .int x4), (2, .int x2), (0, .ref (ad 238)), (1, .int a1)]) hx hb dX6_does_132 hl (by decide) rfl (fun ls hl => ?_)
    refine lv_goto (tgt := 186) hx hb dX6_does_134 (by decide) ?_
    exact q_vret hC hR hr (qso hf) dX6_does_186
  have hf := qif_f hf c_26
  by_cases c_30 : w 246 (3 * a1).toNatClampNeg = 9
  · have hf := qif_t hf c_30
    refine lv_tableIn (off := 107) (tgt := 137) hx hb dX6_does_30 (by rw [c_30]; decide) (by rw [c_30]; decide) (by rw [c_30]; decide) (by decide) ?_
    refine lv_aload_n hx hb dX6_does_137 rfl (lv_at hl 2 rfl) ?_
    obtain ⟨r32, w33, hq31, hf⟩ := qbd2_s hf
    refine q_callVi hC hR (mX6_doQuiet (qJ hC) hq31) (by decide) (qsh_238 G ad _) rfl qk_1333 qk_1335 qk_38 qk_64 qk_1336 qhd_X6_doQuiet ⟨Nat.le_of_ble_eq_true rfl, Nat.le_of_ble_eq_true rfl⟩ hl.1 rfl (Nat.le_of_ble_eq_true rfl) dX6_does_138 ⟨Nat.zero_le _, Nat.zero_le _⟩ (fun H locs hR => ?_)
    refine lv_istore (lv' := [(4, .int r32), (3, .int x4), (2, .int x2), (0, .ref (ad 238)), (1, .int a1)]) hx hb dX6_does_141 hl (by decide) rfl (fun ls hl => ?_)
    refine lv_goto (tgt := 186) hx hb dX6_does_143 (by decide) ?_
    exact q_vret hC hR hr (qso hf) dX6_does_186
  have hf := qif_f hf c_30
  refine lv_tableOut (tgt := 146) hx hb dX6_does_30 (by have hc_6 := qne (z := 3) c_6 rfl; have hc_10 := qne (z := 4) c_10 rfl; have hc_14 := qne (z := 5) c_14 rfl; have hc_18 := qne (z := 6) c_18 rfl; have hc_22 := qne (z := 7) c_22 rfl; have hc_26 := qne (z := 8) c_26 rfl; have hc_30 := qne (z := 9) c_30 rfl; omega) (by decide) ?_
  refine lv_aload_n hx hb dX6_does_146 rfl (lv_at hl 2 rfl) ?_
  refine lv_aload_n hx hb dX6_does_147 rfl (lv_at hl 2 rfl) ?_
  refine qget_X6_19 hC hR qk_1144 dX6_does_148 ?_
  refine lv_iconst (v := 3) hx hb dX6_does_151 (by decide) ?_
  refine lv_iload_n hx hb dX6_does_152 rfl (lv_at hl 3 rfl) ?_
  refine lv_imul hx hb dX6_does_153 ?_
  obtain ⟨g34, hf⟩ := qgd hf
  refine q_ild hC hR (j := (3 * a1).toNatClampNeg) (by decide) (qsh_246 G ad _) g34 rfl dX6_does_154 ?_
  refine lv_if_ne (tgt := 162) hx hb dX6_does_155 (by decide) (fun c_35 => ?_) (fun c_35 => ?_)
  · have hf := qif_f hf c_35
    refine lv_aload_n hx hb dX6_does_162 rfl (lv_at hl 2 rfl) ?_
    refine qget_X6_19 hC hR qk_1144 dX6_does_163 ?_
    refine lv_iconst (v := 3) hx hb dX6_does_166 (by decide) ?_
    refine lv_iload_n hx hb dX6_does_167 rfl (lv_at hl 3 rfl) ?_
    refine lv_imul hx hb dX6_does_168 ?_
    obtain ⟨g36, hf⟩ := qgd hf
    refine q_ild hC hR (j := (3 * a1).toNatClampNeg) (by decide) (qsh_246 G ad _) g36 rfl dX6_does_169 ?_
    refine lv_iconst (v := 1) hx hb dX6_does_170 (by decide) ?_
    refine lv_icmp_ne (tgt := 178) hx hb dX6_does_171 (by decide) (fun c_37 => ?_) (fun c_37 => ?_)
    · have hf := qif_f hf c_37
      refine lv_iconst (v := 3) hx hb dX6_does_178 (by decide) ?_
      refine lv_iload_n hx hb dX6_does_179 rfl (lv_at hl 1 rfl) ?_
      refine lv_iload_n hx hb dX6_does_180 rfl (lv_at hl 0 rfl) ?_
      obtain ⟨r39, w40, hq38, hf⟩ := qbd2_s hf
      refine q_callVi hC hR (mX6_comes (qJ hC) hq38) (by decide) (qsh_238 G ad _) rfl qk_1208 qk_1210 qk_19 qk_64 qk_1211 qhd_X6_comes ⟨Nat.le_of_ble_eq_true rfl, Nat.le_of_ble_eq_true rfl⟩ hl.1 rfl (Nat.le_of_ble_eq_true rfl) dX6_does_181 ⟨Nat.zero_le _, Nat.zero_le _⟩ (fun H locs hR => ?_)
      refine lv_istore (lv' := [(4, .int r39), (3, .int x4), (2, .int x2), (0, .ref (ad 238)), (1, .int a1)]) hx hb dX6_does_184 hl (by decide) rfl (fun ls hl => ?_)
      exact q_vret hC hR hr (qso hf) dX6_does_186
    · have hf := qif_t hf c_37
      refine lv_iconst (v := 2) hx hb dX6_does_174 (by decide) ?_
      refine lv_goto (tgt := 179) hx hb dX6_does_175 (by decide) ?_
      refine lv_iload_n hx hb dX6_does_179 rfl (lv_at hl 1 rfl) ?_
      refine lv_iload_n hx hb dX6_does_180 rfl (lv_at hl 0 rfl) ?_
      obtain ⟨r42, w43, hq41, hf⟩ := qbd2_s hf
      refine q_callVi hC hR (mX6_comes (qJ hC) hq41) (by decide) (qsh_238 G ad _) rfl qk_1208 qk_1210 qk_19 qk_64 qk_1211 qhd_X6_comes ⟨Nat.le_of_ble_eq_true rfl, Nat.le_of_ble_eq_true rfl⟩ hl.1 rfl (Nat.le_of_ble_eq_true rfl) dX6_does_181 ⟨Nat.zero_le _, Nat.zero_le _⟩ (fun H locs hR => ?_)
      refine lv_istore (lv' := [(4, .int r42), (3, .int x4), (2, .int x2), (0, .ref (ad 238)), (1, .int a1)]) hx hb dX6_does_184 hl (by decide) rfl (fun ls hl => ?_)
      exact q_vret hC hR hr (qso hf) dX6_does_186
  · have hf := qif_t hf c_35
    refine lv_iconst (v := 1) hx hb dX6_does_158 (by decide) ?_
    refine lv_goto (tgt := 179) hx hb dX6_does_159 (by decide) ?_
    refine lv_iload_n hx hb dX6_does_179 rfl (lv_at hl 1 rfl) ?_
    refine lv_iload_n hx hb dX6_does_180 rfl (lv_at hl 0 rfl) ?_
    obtain ⟨r45, w46, hq44, hf⟩ := qbd2_s hf
    refine q_callVi hC hR (mX6_comes (qJ hC) hq44) (by decide) (qsh_238 G ad _) rfl qk_1208 qk_1210 qk_19 qk_64 qk_1211 qhd_X6_comes ⟨Nat.le_of_ble_eq_true rfl, Nat.le_of_ble_eq_true rfl⟩ hl.1 rfl (Nat.le_of_ble_eq_true rfl) dX6_does_181 ⟨Nat.zero_le _, Nat.zero_le _⟩ (fun H locs hR => ?_)
    refine lv_istore (lv' := [(4, .int r45), (3, .int x4), (2, .int x2), (0, .ref (ad 238)), (1, .int a1)]) hx hb dX6_does_184 hl (by decide) rfl (fun ls hl => ?_)
    exact q_vret hC hR hr (qso hf) dX6_does_186
-- X6.run
def fX6_run_L117   : Nat → qMem → Int32 → Option (Int32 × qMem)
  | 0, _, _ => none
  | n + 1, w, x1 =>
    if w 238 20 ≤ x1 then
      qbd2 (fX6_ends w (w 238 20)) fun (r19 : Int32) (w20 : qMem) =>
      some (r19, w20)
    else
      qnm (quw w 238 10 0) fun (w21 : qMem) =>
      qbd (fX6_does w21 x1) fun (w23 : qMem) =>
      if w23 238 7 ≤ 0 then
        qnm (x1 + 1) fun (x25 : Int32) =>
        fX6_run_L117 n w23 x25
      else
        if w23 238 10 = 0 then
          qnm (quw w23 238 7 1) fun (w27 : qMem) =>
          qbd2 (fX6_ends w27 0) fun (r29 : Int32) (w30 : qMem) =>
          some (r29, w30)
        else
          qnm (quw w23 238 7 2) fun (w31 : qMem) =>
          qbd2 (fX6_ends w31 0) fun (r33 : Int32) (w34 : qMem) =>
          some (r33, w34)
set_option maxHeartbeats 4000000 in
set_option maxRecDepth 100000 in
theorem mX6_run_L117 {p : Program} {l : Launch} {e : Env} {s : State} {m : MethodId} {args : Array Value} {below : List Frame} {meth : Method} {c0 : Code} {D : va_G} {G : Nat → ClassId} {ad : Nat → Nat}   {rF : Int32} {wF : qMem}  (hC : qCx p c0 cX6_run 2 s m args meth RX6 D G ad) (hr : meth.sig.returnType = some .int)  : ∀ (n : Nat), ∀ (w : qMem) (x1 : Int32) (cc cs : Nat) (H : Heap) (locs : List Loc) (ls : Array Slot), fX6_run_L117 n w x1 = some (rF, wF) → qRp D G ad s w H locs → lv_has ls 2 [(0, .ref (ad 238)), (1, .int x1)] → cc ≤ 286 → cs ≤ 1716 → W p l e (qrm 8 286 1716) s m args below meth c0 H locs cc cs (MQ below (qQI D G ad s wF rF) args s 286 1716 (qAdr ad s.heap.size)) (F0 m 117 ls []) := by
  have hx := hC.1
  have hb := hC.2.1
  intro n
  induction n with
  | zero => intro w x1 cc cs H locs ls hf; exact nomatch (show (none : Option (Int32 × qMem)) = some _ from hf)
  | succ n ih =>
    intro w x1 cc cs H locs ls hf hR hl hcc hcs
    rw [fX6_run_L117] at hf
    refine lv_iload_n hx hb dX6_run_117 rfl (lv_at hl 1 rfl) ?_
    refine lv_aload_n hx hb dX6_run_118 rfl (lv_at hl 0 rfl) ?_
    refine qget_X6_20 hC hR qk_1145 dX6_run_119 ?_
    refine lv_icmp_ge (tgt := 170) hx hb dX6_run_122 (by decide) (fun c_17 => ?_) (fun c_17 => ?_)
    · have hf := qif_t hf c_17
      refine lv_aload_n hx hb dX6_run_170 rfl (lv_at hl 0 rfl) ?_
      refine lv_aload_n hx hb dX6_run_171 rfl (lv_at hl 0 rfl) ?_
      refine qget_X6_20 hC hR qk_1145 dX6_run_172 ?_
      obtain ⟨r19, w20, hq18, hf⟩ := qbd2_s hf
      refine q_callVi hC hR (mX6_ends (qJ hC) hq18) (by decide) (qsh_238 G ad _) rfl qk_1238 qk_1240 qk_25 qk_64 qk_1241 qhd_X6_ends ⟨Nat.le_of_ble_eq_true rfl, Nat.le_of_ble_eq_true rfl⟩ hl.1 rfl (Nat.le_of_ble_eq_true rfl) dX6_run_175 ⟨by show _ ≤ 286; omega, by show _ ≤ 1716; omega⟩ (fun H locs hR => ?_)
      refine W.widen (k := 286) (n := 1716) (by omega) (by omega) ?_
      exact q_iret hC hR hr rfl (qso2 hf).1 (qso2 hf).2 dX6_run_178
    · have hf := qif_f hf c_17
      refine lv_aload_n hx hb dX6_run_125 rfl (lv_at hl 0 rfl) ?_
      refine lv_iconst (v := 0) hx hb dX6_run_126 (by decide) ?_
      refine qput_X6_10 hC hR qk_1135 ⟨by decide, by decide⟩ dX6_run_127 (fun w21 H locs ew21 hR => ?_)
      have hf := qnm_t hf ew21
      refine lv_aload_n hx hb dX6_run_130 rfl (lv_at hl 0 rfl) ?_
      refine lv_iload_n hx hb dX6_run_131 rfl (lv_at hl 1 rfl) ?_
      obtain ⟨w23, hq22, hf⟩ := qbd_s hf
      refine q_callVv hC hR (mX6_does (qJ hC) hq22) (by decide) (qsh_238 G ad _) rfl qk_1755 qk_1757 qk_55 qk_64 qk_1758 qhd_X6_does ⟨Nat.le_of_ble_eq_true rfl, Nat.le_of_ble_eq_true rfl⟩ hl.1 rfl (Nat.le_of_ble_eq_true rfl) dX6_run_132 ⟨by show _ ≤ 286; omega, by show _ ≤ 1716; omega⟩ (fun H locs hR => ?_)
      refine lv_aload_n hx hb dX6_run_135 rfl (lv_at hl 0 rfl) ?_
      refine qget_X6_7 hC hR qk_1132 dX6_run_136 ?_
      refine lv_if_le (tgt := 164) hx hb dX6_run_139 (by decide) (fun c_24 => ?_) (fun c_24 => ?_)
      · have hf := qif_t hf c_24
        obtain ⟨x25, ex25⟩ : ∃ y : Int32, y = x1 + 1 := ⟨_, rfl⟩
        have hf := qnm_t hf ex25
        refine lv_iinc (v := x25) (lv' := [(1, .int x25), (0, .ref (ad 238))]) hx hb dX6_run_164 hl (k := 1) rfl (by rw [ex25]; rfl) (by decide) rfl (fun ls hl => ?_)
        refine lv_goto (tgt := 117) hx hb dX6_run_167 (by decide) ?_
        exact ih _ _ _ _ _ _ _ hf hR (lv_sub hl [1, 0] rfl) (by omega) (by omega)
      · have hf := qif_f hf c_24
        refine lv_aload_n hx hb dX6_run_142 rfl (lv_at hl 0 rfl) ?_
        refine lv_aload_n hx hb dX6_run_143 rfl (lv_at hl 0 rfl) ?_
        refine qget_X6_10 hC hR qk_1135 dX6_run_144 ?_
        refine lv_if_eq (tgt := 154) hx hb dX6_run_147 (by decide) (fun c_26 => ?_) (fun c_26 => ?_)
        · have hf := qif_t hf c_26
          refine lv_iconst (v := 1) hx hb dX6_run_154 (by decide) ?_
          refine qput_X6_7 hC hR qk_1132 ⟨rfl, rfl⟩ dX6_run_155 (fun w27 H locs ew27 hR => ?_)
          have hf := qnm_t hf ew27
          refine lv_aload_n hx hb dX6_run_158 rfl (lv_at hl 0 rfl) ?_
          refine lv_iconst (v := 0) hx hb dX6_run_159 (by decide) ?_
          obtain ⟨r29, w30, hq28, hf⟩ := qbd2_s hf
          refine q_callVi hC hR (mX6_ends (qJ hC) hq28) (by decide) (qsh_238 G ad _) rfl qk_1238 qk_1240 qk_25 qk_64 qk_1241 qhd_X6_ends ⟨Nat.le_of_ble_eq_true rfl, Nat.le_of_ble_eq_true rfl⟩ hl.1 rfl (Nat.le_of_ble_eq_true rfl) dX6_run_160 ⟨by show _ ≤ 286; omega, by show _ ≤ 1716; omega⟩ (fun H locs hR => ?_)
          refine W.widen (k := 286) (n := 1716) (by omega) (by omega) ?_
          exact q_iret hC hR hr rfl (qso2 hf).1 (qso2 hf).2 dX6_run_163
        · have hf := qif_f hf c_26
          refine lv_iconst (v := 2) hx hb dX6_run_150 (by decide) ?_
          refine lv_goto (tgt := 155) hx hb dX6_run_151 (by decide) ?_
          refine qput_X6_7 hC hR qk_1132 ⟨rfl, rfl⟩ dX6_run_155 (fun w31 H locs ew31 hR => ?_)
          have hf := qnm_t hf ew31
          refine lv_aload_n hx hb dX6_run_158 rfl (lv_at hl 0 rfl) ?_
          refine lv_iconst (v := 0) hx hb dX6_run_159 (by decide) ?_
          obtain ⟨r33, w34, hq32, hf⟩ := qbd2_s hf
          refine q_callVi hC hR (mX6_ends (qJ hC) hq32) (by decide) (qsh_238 G ad _) rfl qk_1238 qk_1240 qk_25 qk_64 qk_1241 qhd_X6_ends ⟨Nat.le_of_ble_eq_true rfl, Nat.le_of_ble_eq_true rfl⟩ hl.1 rfl (Nat.le_of_ble_eq_true rfl) dX6_run_160 ⟨by show _ ≤ 286; omega, by show _ ≤ 1716; omega⟩ (fun H locs hR => ?_)
          refine W.widen (k := 286) (n := 1716) (by omega) (by omega) ?_
          exact q_iret hC hR hr rfl (qso2 hf).1 (qso2 hf).2 dX6_run_163
def fX6_run_L19   : Nat → qMem → Option (Int32 × qMem)
  | 0, _ => none
  | n + 1, w =>
    qbd (fX6_isHere w 59 59) fun (r7 : Int32) =>
    if r7 = 0 then
      if w 238 17 = 0 then
        if w 238 15 ≤ w 238 16 then
          qnm (quw w 238 17 0) fun (w47 : qMem) =>
          if w47 238 17 = 0 then
            qnm (quw w47 238 18 (-1)) fun (w49 : qMem) =>
            qnm (quw w49 238 15 0) fun (w50 : qMem) =>
            if w50 238 17 = 0 then
              qbd (fX6_keep w50) fun (w53 : qMem) =>
              fX6_run_L117 100 w53 0
            else
              qbd2 (fX6_fails w50 1) fun (r55 : Int32) (w56 : qMem) =>
              some (r55, w56)
          else
            qnm (quw w47 238 18 (w47 238 16)) fun (w57 : qMem) =>
            qnm (quw w57 238 15 0) fun (w58 : qMem) =>
            if w58 238 17 = 0 then
              qbd (fX6_keep w58) fun (w61 : qMem) =>
              fX6_run_L117 100 w61 0
            else
              qbd2 (fX6_fails w58 1) fun (r63 : Int32) (w64 : qMem) =>
              some (r63, w64)
        else
          qnm (quw w 238 17 1) fun (w65 : qMem) =>
          if w65 238 17 = 0 then
            qnm (quw w65 238 18 (-1)) fun (w67 : qMem) =>
            qnm (quw w67 238 15 0) fun (w68 : qMem) =>
            if w68 238 17 = 0 then
              qbd (fX6_keep w68) fun (w71 : qMem) =>
              fX6_run_L117 100 w71 0
            else
              qbd2 (fX6_fails w68 1) fun (r73 : Int32) (w74 : qMem) =>
              some (r73, w74)
          else
            qnm (quw w65 238 18 (w65 238 16)) fun (w75 : qMem) =>
            qnm (quw w75 238 15 0) fun (w76 : qMem) =>
            if w76 238 17 = 0 then
              qbd (fX6_keep w76) fun (w79 : qMem) =>
              fX6_run_L117 100 w79 0
            else
              qbd2 (fX6_fails w76 1) fun (r81 : Int32) (w82 : qMem) =>
              some (r81, w82)
      else
        qnm (quw w 238 17 1) fun (w10 : qMem) =>
        if w10 238 17 = 0 then
          qnm (quw w10 238 18 (-1)) fun (w12 : qMem) =>
          qnm (quw w12 238 15 0) fun (w13 : qMem) =>
          if w13 238 17 = 0 then
            qbd (fX6_keep w13) fun (w16 : qMem) =>
            fX6_run_L117 100 w16 0
          else
            qbd2 (fX6_fails w13 1) fun (r36 : Int32) (w37 : qMem) =>
            some (r36, w37)
        else
          qnm (quw w10 238 18 (w10 238 16)) fun (w38 : qMem) =>
          qnm (quw w38 238 15 0) fun (w39 : qMem) =>
          if w39 238 17 = 0 then
            qbd (fX6_keep w39) fun (w42 : qMem) =>
            fX6_run_L117 100 w42 0
          else
            qbd2 (fX6_fails w39 1) fun (r44 : Int32) (w45 : qMem) =>
            some (r44, w45)
    else
      qnm (quw w 238 16 ((w 238 16) + 1)) fun (w83 : qMem) =>
      qbd (fX6_readOrder w83) fun (w85 : qMem) =>
      fX6_run_L19 n w85
set_option maxHeartbeats 4000000 in
set_option maxRecDepth 100000 in
theorem mX6_run_L19 {p : Program} {l : Launch} {e : Env} {s : State} {m : MethodId} {args : Array Value} {below : List Frame} {meth : Method} {c0 : Code} {D : va_G} {G : Nat → ClassId} {ad : Nat → Nat}   {rF : Int32} {wF : qMem}  (hC : qCx p c0 cX6_run 2 s m args meth RX6 D G ad) (hr : meth.sig.returnType = some .int)  : ∀ (n : Nat), ∀ (w : qMem) (cc cs : Nat) (H : Heap) (locs : List Loc) (ls : Array Slot), fX6_run_L19 n w = some (rF, wF) → qRp D G ad s w H locs → lv_has ls 2 [(0, .ref (ad 238))] → cc + 22 * n ≤ 286 → cs + 132 * n ≤ 1716 → W p l e (qrm 8 286 1716) s m args below meth c0 H locs cc cs (MQ below (qQI D G ad s wF rF) args s 286 1716 (qAdr ad s.heap.size)) (F0 m 19 ls []) := by
  have hx := hC.1
  have hb := hC.2.1
  intro n
  induction n with
  | zero => intro w cc cs H locs ls hf; exact nomatch (show (none : Option (Int32 × qMem)) = some _ from hf)
  | succ n ih =>
    intro w cc cs H locs ls hf hR hl hcc hcs
    rw [fX6_run_L19] at hf
    refine lv_aload_n hx hb dX6_run_19 rfl (lv_at hl 0 rfl) ?_
    refine lv_bipush (v := 59) hx hb dX6_run_20 (by decide) ?_
    refine lv_bipush (v := 59) hx hb dX6_run_22 (by decide) ?_
    obtain ⟨r7, hq6, hf⟩ := qbd_s hf
    refine q_callVi hC hR (mX6_isHere (qJ hC) hq6) (by decide) (qsh_238 G ad _) rfl qk_1742 qk_1744 qk_52 qk_64 qk_1745 qhd_X6_isHere ⟨Nat.le_of_ble_eq_true rfl, Nat.le_of_ble_eq_true rfl⟩ hl.1 rfl (Nat.le_of_ble_eq_true rfl) dX6_run_24 ⟨by show _ ≤ 286; omega, by show _ ≤ 1716; omega⟩ (fun H locs hR => ?_)
    refine lv_if_eq (tgt := 47) hx hb dX6_run_27 (by decide) (fun c_8 => ?_) (fun c_8 => ?_)
    · have hf := qif_t hf c_8
      refine lv_aload_n hx hb dX6_run_47 rfl (lv_at hl 0 rfl) ?_
      refine lv_aload_n hx hb dX6_run_48 rfl (lv_at hl 0 rfl) ?_
      refine qget_X6_17 hC hR qk_1142 dX6_run_49 ?_
      refine lv_if_ne (tgt := 66) hx hb dX6_run_52 (by decide) (fun c_9 => ?_) (fun c_9 => ?_)
      · have hf := qif_f hf c_9
        refine lv_iconst (v := 1) hx hb dX6_run_66 (by decide) ?_
        refine lv_goto (tgt := 71) hx hb dX6_run_67 (by decide) ?_
        refine qput_X6_17 hC hR qk_1142 ⟨by decide, by decide⟩ dX6_run_71 (fun w10 H locs ew10 hR => ?_)
        have hf := qnm_t hf ew10
        refine lv_aload_n hx hb dX6_run_74 rfl (lv_at hl 0 rfl) ?_
        refine lv_aload_n hx hb dX6_run_75 rfl (lv_at hl 0 rfl) ?_
        refine qget_X6_17 hC hR qk_1142 dX6_run_76 ?_
        refine lv_if_eq (tgt := 89) hx hb dX6_run_79 (by decide) (fun c_11 => ?_) (fun c_11 => ?_)
        · have hf := qif_t hf c_11
          refine lv_iconst (v := (-1)) hx hb dX6_run_89 (by decide) ?_
          refine qput_X6_18 hC hR qk_1143 ⟨rfl, rfl⟩ dX6_run_90 (fun w12 H locs ew12 hR => ?_)
          have hf := qnm_t hf ew12
          refine lv_aload_n hx hb dX6_run_93 rfl (lv_at hl 0 rfl) ?_
          refine lv_iconst (v := 0) hx hb dX6_run_94 (by decide) ?_
          refine qput_X6_15 hC hR qk_1140 ⟨rfl, rfl⟩ dX6_run_95 (fun w13 H locs ew13 hR => ?_)
          have hf := qnm_t hf ew13
          refine lv_aload_n hx hb dX6_run_98 rfl (lv_at hl 0 rfl) ?_
          refine qget_X6_17 hC hR qk_1142 dX6_run_99 ?_
          refine lv_if_eq (tgt := 111) hx hb dX6_run_102 (by decide) (fun c_14 => ?_) (fun c_14 => ?_)
          · have hf := qif_t hf c_14
            refine lv_aload_n hx hb dX6_run_111 rfl (lv_at hl 0 rfl) ?_
            obtain ⟨w16, hq15, hf⟩ := qbd_s hf
            refine q_callVv hC hR (mX6_keep (qJ hC) hq15) (by decide) (qsh_238 G ad _) rfl qk_1201 qk_1203 qk_18 qk_64 qk_1204 qhd_X6_keep ⟨Nat.le_of_ble_eq_true rfl, Nat.le_of_ble_eq_true rfl⟩ hl.1 rfl (Nat.le_of_ble_eq_true rfl) dX6_run_112 ⟨by show _ ≤ 286; omega, by show _ ≤ 1716; omega⟩ (fun H locs hR => ?_)
            refine lv_iconst (v := 0) hx hb dX6_run_115 (by decide) ?_
            refine lv_istore_n (lv' := [(1, .int 0), (0, .ref (ad 238))]) hx hb dX6_run_116 rfl hl (by decide) rfl (fun ls hl => ?_)
            exact mX6_run_L117 hC hr 100 _ _ _ _ _ _ _ hf hR (lv_sub hl [1, 0] rfl) (by omega) (by omega)
          · have hf := qif_f hf c_14
            refine lv_aload_n hx hb dX6_run_105 rfl (lv_at hl 0 rfl) ?_
            refine lv_iconst (v := 1) hx hb dX6_run_106 (by decide) ?_
            obtain ⟨r36, w37, hq35, hf⟩ := qbd2_s hf
            refine q_callVi hC hR (mX6_fails (qJ hC) hq35) (by decide) (qsh_238 G ad _) rfl qk_1218 qk_1220 qk_20 qk_64 qk_1221 qhd_X6_fails ⟨Nat.le_of_ble_eq_true rfl, Nat.le_of_ble_eq_true rfl⟩ hl.1 rfl (Nat.le_of_ble_eq_true rfl) dX6_run_107 ⟨by show _ ≤ 286; omega, by show _ ≤ 1716; omega⟩ (fun H locs hR => ?_)
            refine W.widen (k := 286) (n := 1716) (by omega) (by omega) ?_
            exact q_iret hC hR hr rfl (qso2 hf).1 (qso2 hf).2 dX6_run_110
        · have hf := qif_f hf c_11
          refine lv_aload_n hx hb dX6_run_82 rfl (lv_at hl 0 rfl) ?_
          refine qget_X6_16 hC hR qk_1141 dX6_run_83 ?_
          refine lv_goto (tgt := 90) hx hb dX6_run_86 (by decide) ?_
          refine qput_X6_18 hC hR qk_1143 ⟨rfl, rfl⟩ dX6_run_90 (fun w38 H locs ew38 hR => ?_)
          have hf := qnm_t hf ew38
          refine lv_aload_n hx hb dX6_run_93 rfl (lv_at hl 0 rfl) ?_
          refine lv_iconst (v := 0) hx hb dX6_run_94 (by decide) ?_
          refine qput_X6_15 hC hR qk_1140 ⟨rfl, rfl⟩ dX6_run_95 (fun w39 H locs ew39 hR => ?_)
          have hf := qnm_t hf ew39
          refine lv_aload_n hx hb dX6_run_98 rfl (lv_at hl 0 rfl) ?_
          refine qget_X6_17 hC hR qk_1142 dX6_run_99 ?_
          refine lv_if_eq (tgt := 111) hx hb dX6_run_102 (by decide) (fun c_40 => ?_) (fun c_40 => ?_)
          · have hf := qif_t hf c_40
            refine lv_aload_n hx hb dX6_run_111 rfl (lv_at hl 0 rfl) ?_
            obtain ⟨w42, hq41, hf⟩ := qbd_s hf
            refine q_callVv hC hR (mX6_keep (qJ hC) hq41) (by decide) (qsh_238 G ad _) rfl qk_1201 qk_1203 qk_18 qk_64 qk_1204 qhd_X6_keep ⟨Nat.le_of_ble_eq_true rfl, Nat.le_of_ble_eq_true rfl⟩ hl.1 rfl (Nat.le_of_ble_eq_true rfl) dX6_run_112 ⟨by show _ ≤ 286; omega, by show _ ≤ 1716; omega⟩ (fun H locs hR => ?_)
            refine lv_iconst (v := 0) hx hb dX6_run_115 (by decide) ?_
            refine lv_istore_n (lv' := [(1, .int 0), (0, .ref (ad 238))]) hx hb dX6_run_116 rfl hl (by decide) rfl (fun ls hl => ?_)
            exact mX6_run_L117 hC hr 100 _ _ _ _ _ _ _ hf hR (lv_sub hl [1, 0] rfl) (by omega) (by omega)
          · have hf := qif_f hf c_40
            refine lv_aload_n hx hb dX6_run_105 rfl (lv_at hl 0 rfl) ?_
            refine lv_iconst (v := 1) hx hb dX6_run_106 (by decide) ?_
            obtain ⟨r44, w45, hq43, hf⟩ := qbd2_s hf
            refine q_callVi hC hR (mX6_fails (qJ hC) hq43) (by decide) (qsh_238 G ad _) rfl qk_1218 qk_1220 qk_20 qk_64 qk_1221 qhd_X6_fails ⟨Nat.le_of_ble_eq_true rfl, Nat.le_of_ble_eq_true rfl⟩ hl.1 rfl (Nat.le_of_ble_eq_true rfl) dX6_run_107 ⟨by show _ ≤ 286; omega, by show _ ≤ 1716; omega⟩ (fun H locs hR => ?_)
            refine W.widen (k := 286) (n := 1716) (by omega) (by omega) ?_
            exact q_iret hC hR hr rfl (qso2 hf).1 (qso2 hf).2 dX6_run_110
      · have hf := qif_t hf c_9
        refine lv_aload_n hx hb dX6_run_55 rfl (lv_at hl 0 rfl) ?_
        refine qget_X6_16 hC hR qk_1141 dX6_run_56 ?_
        refine lv_aload_n hx hb dX6_run_59 rfl (lv_at hl 0 rfl) ?_
        refine qget_X6_15 hC hR qk_1140 dX6_run_60 ?_
        refine lv_icmp_ge (tgt := 70) hx hb dX6_run_63 (by decide) (fun c_46 => ?_) (fun c_46 => ?_)
        · have hf := qif_t hf c_46
          refine lv_iconst (v := 0) hx hb dX6_run_70 (by decide) ?_
          refine qput_X6_17 hC hR qk_1142 ⟨by decide, by decide⟩ dX6_run_71 (fun w47 H locs ew47 hR => ?_)
          have hf := qnm_t hf ew47
          refine lv_aload_n hx hb dX6_run_74 rfl (lv_at hl 0 rfl) ?_
          refine lv_aload_n hx hb dX6_run_75 rfl (lv_at hl 0 rfl) ?_
          refine qget_X6_17 hC hR qk_1142 dX6_run_76 ?_
          refine lv_if_eq (tgt := 89) hx hb dX6_run_79 (by decide) (fun c_48 => ?_) (fun c_48 => ?_)
          · have hf := qif_t hf c_48
            refine lv_iconst (v := (-1)) hx hb dX6_run_89 (by decide) ?_
            refine qput_X6_18 hC hR qk_1143 ⟨rfl, rfl⟩ dX6_run_90 (fun w49 H locs ew49 hR => ?_)
            have hf := qnm_t hf ew49
            refine lv_aload_n hx hb dX6_run_93 rfl (lv_at hl 0 rfl) ?_
            refine lv_iconst (v := 0) hx hb dX6_run_94 (by decide) ?_
            refine qput_X6_15 hC hR qk_1140 ⟨rfl, rfl⟩ dX6_run_95 (fun w50 H locs ew50 hR => ?_)
            have hf := qnm_t hf ew50
            refine lv_aload_n hx hb dX6_run_98 rfl (lv_at hl 0 rfl) ?_
            refine qget_X6_17 hC hR qk_1142 dX6_run_99 ?_
            refine lv_if_eq (tgt := 111) hx hb dX6_run_102 (by decide) (fun c_51 => ?_) (fun c_51 => ?_)
            · have hf := qif_t hf c_51
              refine lv_aload_n hx hb dX6_run_111 rfl (lv_at hl 0 rfl) ?_
              obtain ⟨w53, hq52, hf⟩ := qbd_s hf
              refine q_callVv hC hR (mX6_keep (qJ hC) hq52) (by decide) (qsh_238 G ad _) rfl qk_1201 qk_1203 qk_18 qk_64 qk_1204 qhd_X6_keep ⟨Nat.le_of_ble_eq_true rfl, Nat.le_of_ble_eq_true rfl⟩ hl.1 rfl (Nat.le_of_ble_eq_true rfl) dX6_run_112 ⟨by show _ ≤ 286; omega, by show _ ≤ 1716; omega⟩ (fun H locs hR => ?_)
              refine lv_iconst (v := 0) hx hb dX6_run_115 (by decide) ?_
              refine lv_istore_n (lv' := [(1, .int 0), (0, .ref (ad 238))]) hx hb dX6_run_116 rfl hl (by decide) rfl (fun ls hl => ?_)
              exact mX6_run_L117 hC hr 100 _ _ _ _ _ _ _ hf hR (lv_sub hl [1, 0] rfl) (by omega) (by omega)
            · have hf := qif_f hf c_51
              refine lv_aload_n hx hb dX6_run_105 rfl (lv_at hl 0 rfl) ?_
              refine lv_iconst (v := 1) hx hb dX6_run_106 (by decide) ?_
              obtain ⟨r55, w56, hq54, hf⟩ := qbd2_s hf
              refine q_callVi hC hR (mX6_fails (qJ hC) hq54) (by decide) (qsh_238 G ad _) rfl qk_1218 qk_1220 qk_20 qk_64 qk_1221 qhd_X6_fails ⟨Nat.le_of_ble_eq_true rfl, Nat.le_of_ble_eq_true rfl⟩ hl.1 rfl (Nat.le_of_ble_eq_true rfl) dX6_run_107 ⟨by show _ ≤ 286; omega, by show _ ≤ 1716; omega⟩ (fun H locs hR => ?_)
              refine W.widen (k := 286) (n := 1716) (by omega) (by omega) ?_
              exact q_iret hC hR hr rfl (qso2 hf).1 (qso2 hf).2 dX6_run_110
          · have hf := qif_f hf c_48
            refine lv_aload_n hx hb dX6_run_82 rfl (lv_at hl 0 rfl) ?_
            refine qget_X6_16 hC hR qk_1141 dX6_run_83 ?_
            refine lv_goto (tgt := 90) hx hb dX6_run_86 (by decide) ?_
            refine qput_X6_18 hC hR qk_1143 ⟨rfl, rfl⟩ dX6_run_90 (fun w57 H locs ew57 hR => ?_)
            have hf := qnm_t hf ew57
            refine lv_aload_n hx hb dX6_run_93 rfl (lv_at hl 0 rfl) ?_
            refine lv_iconst (v := 0) hx hb dX6_run_94 (by decide) ?_
            refine qput_X6_15 hC hR qk_1140 ⟨rfl, rfl⟩ dX6_run_95 (fun w58 H locs ew58 hR => ?_)
            have hf := qnm_t hf ew58
            refine lv_aload_n hx hb dX6_run_98 rfl (lv_at hl 0 rfl) ?_
            refine qget_X6_17 hC hR qk_1142 dX6_run_99 ?_
            refine lv_if_eq (tgt := 111) hx hb dX6_run_102 (by decide) (fun c_59 => ?_) (fun c_59 => ?_)
            · have hf := qif_t hf c_59
              refine lv_aload_n hx hb dX6_run_111 rfl (lv_at hl 0 rfl) ?_
              obtain ⟨w61, hq60, hf⟩ := qbd_s hf
              refine q_callVv hC hR (mX6_keep (qJ hC) hq60) (by decide) (qsh_238 G ad _) rfl qk_1201 qk_1203 qk_18 qk_64 qk_1204 qhd_X6_keep ⟨Nat.le_of_ble_eq_true rfl, Nat.le_of_ble_eq_true rfl⟩ hl.1 rfl (Nat.le_of_ble_eq_true rfl) dX6_run_112 ⟨by show _ ≤ 286; omega, by show _ ≤ 1716; omega⟩ (fun H locs hR => ?_)
              refine lv_iconst (v := 0) hx hb dX6_run_115 (by decide) ?_
              refine lv_istore_n (lv' := [(1, .int 0), (0, .ref (ad 238))]) hx hb dX6_run_116 rfl hl (by decide) rfl (fun ls hl => ?_)
              exact mX6_run_L117 hC hr 100 _ _ _ _ _ _ _ hf hR (lv_sub hl [1, 0] rfl) (by omega) (by omega)
            · have hf := qif_f hf c_59
              refine lv_aload_n hx hb dX6_run_105 rfl (lv_at hl 0 rfl) ?_
              refine lv_iconst (v := 1) hx hb dX6_run_106 (by decide) ?_
              obtain ⟨r63, w64, hq62, hf⟩ := qbd2_s hf
              refine q_callVi hC hR (mX6_fails (qJ hC) hq62) (by decide) (qsh_238 G ad _) rfl qk_1218 qk_1220 qk_20 qk_64 qk_1221 qhd_X6_fails ⟨Nat.le_of_ble_eq_true rfl, Nat.le_of_ble_eq_true rfl⟩ hl.1 rfl (Nat.le_of_ble_eq_true rfl) dX6_run_107 ⟨by show _ ≤ 286; omega, by show _ ≤ 1716; omega⟩ (fun H locs hR => ?_)
              refine W.widen (k := 286) (n := 1716) (by omega) (by omega) ?_
              exact q_iret hC hR hr rfl (qso2 hf).1 (qso2 hf).2 dX6_run_110
        · have hf := qif_f hf c_46
          refine lv_iconst (v := 1) hx hb dX6_run_66 (by decide) ?_
          refine lv_goto (tgt := 71) hx hb dX6_run_67 (by decide) ?_
          refine qput_X6_17 hC hR qk_1142 ⟨by decide, by decide⟩ dX6_run_71 (fun w65 H locs ew65 hR => ?_)
          have hf := qnm_t hf ew65
          refine lv_aload_n hx hb dX6_run_74 rfl (lv_at hl 0 rfl) ?_
          refine lv_aload_n hx hb dX6_run_75 rfl (lv_at hl 0 rfl) ?_
          refine qget_X6_17 hC hR qk_1142 dX6_run_76 ?_
          refine lv_if_eq (tgt := 89) hx hb dX6_run_79 (by decide) (fun c_66 => ?_) (fun c_66 => ?_)
          · have hf := qif_t hf c_66
            refine lv_iconst (v := (-1)) hx hb dX6_run_89 (by decide) ?_
            refine qput_X6_18 hC hR qk_1143 ⟨rfl, rfl⟩ dX6_run_90 (fun w67 H locs ew67 hR => ?_)
            have hf := qnm_t hf ew67
            refine lv_aload_n hx hb dX6_run_93 rfl (lv_at hl 0 rfl) ?_
            refine lv_iconst (v := 0) hx hb dX6_run_94 (by decide) ?_
            refine qput_X6_15 hC hR qk_1140 ⟨rfl, rfl⟩ dX6_run_95 (fun w68 H locs ew68 hR => ?_)
            have hf := qnm_t hf ew68
            refine lv_aload_n hx hb dX6_run_98 rfl (lv_at hl 0 rfl) ?_
            refine qget_X6_17 hC hR qk_1142 dX6_run_99 ?_
            refine lv_if_eq (tgt := 111) hx hb dX6_run_102 (by decide) (fun c_69 => ?_) (fun c_69 => ?_)
            · have hf := qif_t hf c_69
              refine lv_aload_n hx hb dX6_run_111 rfl (lv_at hl 0 rfl) ?_
              obtain ⟨w71, hq70, hf⟩ := qbd_s hf
              refine q_callVv hC hR (mX6_keep (qJ hC) hq70) (by decide) (qsh_238 G ad _) rfl qk_1201 qk_1203 qk_18 qk_64 qk_1204 qhd_X6_keep ⟨Nat.le_of_ble_eq_true rfl, Nat.le_of_ble_eq_true rfl⟩ hl.1 rfl (Nat.le_of_ble_eq_true rfl) dX6_run_112 ⟨by show _ ≤ 286; omega, by show _ ≤ 1716; omega⟩ (fun H locs hR => ?_)
              refine lv_iconst (v := 0) hx hb dX6_run_115 (by decide) ?_
              refine lv_istore_n (lv' := [(1, .int 0), (0, .ref (ad 238))]) hx hb dX6_run_116 rfl hl (by decide) rfl (fun ls hl => ?_)
              exact mX6_run_L117 hC hr 100 _ _ _ _ _ _ _ hf hR (lv_sub hl [1, 0] rfl) (by omega) (by omega)
            · have hf := qif_f hf c_69
              refine lv_aload_n hx hb dX6_run_105 rfl (lv_at hl 0 rfl) ?_
              refine lv_iconst (v := 1) hx hb dX6_run_106 (by decide) ?_
              obtain ⟨r73, w74, hq72, hf⟩ := qbd2_s hf
              refine q_callVi hC hR (mX6_fails (qJ hC) hq72) (by decide) (qsh_238 G ad _) rfl qk_1218 qk_1220 qk_20 qk_64 qk_1221 qhd_X6_fails ⟨Nat.le_of_ble_eq_true rfl, Nat.le_of_ble_eq_true rfl⟩ hl.1 rfl (Nat.le_of_ble_eq_true rfl) dX6_run_107 ⟨by show _ ≤ 286; omega, by show _ ≤ 1716; omega⟩ (fun H locs hR => ?_)
              refine W.widen (k := 286) (n := 1716) (by omega) (by omega) ?_
              exact q_iret hC hR hr rfl (qso2 hf).1 (qso2 hf).2 dX6_run_110
          · have hf := qif_f hf c_66
            refine lv_aload_n hx hb dX6_run_82 rfl (lv_at hl 0 rfl) ?_
            refine qget_X6_16 hC hR qk_1141 dX6_run_83 ?_
            refine lv_goto (tgt := 90) hx hb dX6_run_86 (by decide) ?_
            refine qput_X6_18 hC hR qk_1143 ⟨rfl, rfl⟩ dX6_run_90 (fun w75 H locs ew75 hR => ?_)
            have hf := qnm_t hf ew75
            refine lv_aload_n hx hb dX6_run_93 rfl (lv_at hl 0 rfl) ?_
            refine lv_iconst (v := 0) hx hb dX6_run_94 (by decide) ?_
            refine qput_X6_15 hC hR qk_1140 ⟨rfl, rfl⟩ dX6_run_95 (fun w76 H locs ew76 hR => ?_)
            have hf := qnm_t hf ew76
            refine lv_aload_n hx hb dX6_run_98 rfl (lv_at hl 0 rfl) ?_
            refine qget_X6_17 hC hR qk_1142 dX6_run_99 ?_
            refine lv_if_eq (tgt := 111) hx hb dX6_run_102 (by decide) (fun c_77 => ?_) (fun c_77 => ?_)
            · have hf := qif_t hf c_77
              refine lv_aload_n hx hb dX6_run_111 rfl (lv_at hl 0 rfl) ?_
              obtain ⟨w79, hq78, hf⟩ := qbd_s hf
              refine q_callVv hC hR (mX6_keep (qJ hC) hq78) (by decide) (qsh_238 G ad _) rfl qk_1201 qk_1203 qk_18 qk_64 qk_1204 qhd_X6_keep ⟨Nat.le_of_ble_eq_true rfl, Nat.le_of_ble_eq_true rfl⟩ hl.1 rfl (Nat.le_of_ble_eq_true rfl) dX6_run_112 ⟨by show _ ≤ 286; omega, by show _ ≤ 1716; omega⟩ (fun H locs hR => ?_)
              refine lv_iconst (v := 0) hx hb dX6_run_115 (by decide) ?_
              refine lv_istore_n (lv' := [(1, .int 0), (0, .ref (ad 238))]) hx hb dX6_run_116 rfl hl (by decide) rfl (fun ls hl => ?_)
              exact mX6_run_L117 hC hr 100 _ _ _ _ _ _ _ hf hR (lv_sub hl [1, 0] rfl) (by omega) (by omega)
            · have hf := qif_f hf c_77
              refine lv_aload_n hx hb dX6_run_105 rfl (lv_at hl 0 rfl) ?_
              refine lv_iconst (v := 1) hx hb dX6_run_106 (by decide) ?_
              obtain ⟨r81, w82, hq80, hf⟩ := qbd2_s hf
              refine q_callVi hC hR (mX6_fails (qJ hC) hq80) (by decide) (qsh_238 G ad _) rfl qk_1218 qk_1220 qk_20 qk_64 qk_1221 qhd_X6_fails ⟨Nat.le_of_ble_eq_true rfl, Nat.le_of_ble_eq_true rfl⟩ hl.1 rfl (Nat.le_of_ble_eq_true rfl) dX6_run_107 ⟨by show _ ≤ 286; omega, by show _ ≤ 1716; omega⟩ (fun H locs hR => ?_)
              refine W.widen (k := 286) (n := 1716) (by omega) (by omega) ?_
              exact q_iret hC hR hr rfl (qso2 hf).1 (qso2 hf).2 dX6_run_110
    · have hf := qif_f hf c_8
      refine lv_aload_n hx hb dX6_run_30 rfl (lv_at hl 0 rfl) ?_
      refine lv_dup hx hb dX6_run_31 rfl ?_
      refine qget_X6_16 hC hR qk_1141 dX6_run_32 ?_
      refine lv_iconst (v := 1) hx hb dX6_run_35 (by decide) ?_
      refine lv_iadd hx hb dX6_run_36 ?_
      refine qput_X6_16 hC hR qk_1141 ⟨rfl, rfl⟩ dX6_run_37 (fun w83 H locs ew83 hR => ?_)
      have hf := qnm_t hf ew83
      refine lv_aload_n hx hb dX6_run_40 rfl (lv_at hl 0 rfl) ?_
      obtain ⟨w85, hq84, hf⟩ := qbd_s hf
      refine q_callVv hC hR (mX6_readOrder (qJ hC) hq84) (by decide) (qsh_238 G ad _) rfl qk_1447 qk_1449 qk_47 qk_64 qk_1450 qhd_X6_readOrder ⟨Nat.le_of_ble_eq_true rfl, Nat.le_of_ble_eq_true rfl⟩ hl.1 rfl (Nat.le_of_ble_eq_true rfl) dX6_run_41 ⟨by show _ ≤ 286; omega, by show _ ≤ 1716; omega⟩ (fun H locs hR => ?_)
      refine lv_goto (tgt := 19) hx hb dX6_run_44 (by decide) ?_
      exact ih _ _ _ _ _ _ hf hR (lv_sub hl [0] rfl) (by omega) (by omega)
def fX6_run (w : qMem)   : Option (Int32 × qMem) :=
  qnm (quw w 238 16 0) fun (w1 : qMem) =>
  qnm (quw w1 238 17 0) fun (w2 : qMem) =>
  qnm (quw w2 238 20 0) fun (w3 : qMem) =>
  qbd (fX6_readOrder w3) fun (w5 : qMem) =>
  fX6_run_L19 12 w5
theorem qhd_X6_run : yX6_run.cls ≠ "java/lang/invoke/MethodHandle" ∧ yX6_run.cls ≠ "java/lang/invoke/VarHandle" ∧ (parseMethodDescriptor yX6_run.desc).map (fun d => d.parameters.length) = some 0 := ⟨by decide +kernel, by decide +kernel, by decide +kernel⟩
set_option maxHeartbeats 4000000 in
set_option maxRecDepth 100000 in
theorem mX6_run {l : Launch} {D : va_G} {G : Nat → ClassId} {ad : Nat → Nat} (hJ : qInj ad) {w : qMem}    {rF : Int32} {wF : qMem} (hf : fX6_run w = some (rF, wF)) : qCMi l D G ad yX6_run cX6_run 2 (some .int) 8 286 1716 [.ref (ad 238)] w rF wF := by
  refine q_start RX6 rfl (by decide +kernel) hJ (fun a b h => by simp only [qQI, qQV, qQR, qQD, qQF, h]) (Nat.le_of_ble_eq_true rfl) ?_
  intro p e s m args below meth c0 ls hC hr hR hl
  have hx := hC.1
  have hb := hC.2.1
  have hl : lv_has ls 2 [(0, .ref (ad 238))] := hl
  unfold fX6_run at hf
  refine lv_aload_n hx hb dX6_run_0 rfl (lv_at hl 0 rfl) ?_
  refine lv_iconst (v := 0) hx hb dX6_run_1 (by decide) ?_
  refine qput_X6_16 hC hR qk_1141 ⟨rfl, rfl⟩ dX6_run_2 (fun w1 H locs ew1 hR => ?_)
  have hf := qnm_t hf ew1
  refine lv_aload_n hx hb dX6_run_5 rfl (lv_at hl 0 rfl) ?_
  refine lv_iconst (v := 0) hx hb dX6_run_6 (by decide) ?_
  refine qput_X6_17 hC hR qk_1142 ⟨by decide, by decide⟩ dX6_run_7 (fun w2 H locs ew2 hR => ?_)
  have hf := qnm_t hf ew2
  refine lv_aload_n hx hb dX6_run_10 rfl (lv_at hl 0 rfl) ?_
  refine lv_iconst (v := 0) hx hb dX6_run_11 (by decide) ?_
  refine qput_X6_20 hC hR qk_1145 ⟨rfl, rfl⟩ dX6_run_12 (fun w3 H locs ew3 hR => ?_)
  have hf := qnm_t hf ew3
  refine lv_aload_n hx hb dX6_run_15 rfl (lv_at hl 0 rfl) ?_
  obtain ⟨w5, hq4, hf⟩ := qbd_s hf
  refine q_callVv hC hR (mX6_readOrder (qJ hC) hq4) (by decide) (qsh_238 G ad _) rfl qk_1447 qk_1449 qk_47 qk_64 qk_1450 qhd_X6_readOrder ⟨Nat.le_of_ble_eq_true rfl, Nat.le_of_ble_eq_true rfl⟩ hl.1 rfl (Nat.le_of_ble_eq_true rfl) dX6_run_16 ⟨Nat.le_of_ble_eq_true rfl, Nat.le_of_ble_eq_true rfl⟩ (fun H locs hR => ?_)
  exact mX6_run_L19 hC hr 12 _ _ _ _ _ _ hf hR (lv_sub hl [0] rfl) (Nat.le_of_ble_eq_true rfl) (Nat.le_of_ble_eq_true rfl)
-- X6.meanGrade
def fX6_meanGrade_L23   : Nat → qMem → Int32 → Int32 → Int32 → Option (UInt64 × qMem)
  | 0, _, _, _, _ => none
  | n + 1, w, x1, x2, x3 =>
    if w 239 0 ≤ x3 then
      if w 238 7 ≤ 0 then
        if qn64 (FP.ddiv (FP.i2d x2) (FP.i2d x1)) = true then
        some (FP.ddiv (FP.i2d x2) (FP.i2d x1), w)
        else none
      else
        some (FP.dconst0, w)
    else
      qbd (fX6_of w x3 0) fun (r9 : Int32) =>
      if r9 = 1 then
        qbd (fX6_of w x3 2) fun (r14 : Int32) =>
        qnm (x2 + r14) fun (x15 : Int32) =>
        qnm (x3 + 1) fun (x16 : Int32) =>
        fX6_meanGrade_L23 n w x1 x15 x16
      else
        qnm (x2 + 0) fun (x11 : Int32) =>
        qnm (x3 + 1) fun (x12 : Int32) =>
        fX6_meanGrade_L23 n w x1 x11 x12
set_option maxHeartbeats 4000000 in
set_option maxRecDepth 100000 in
theorem mX6_meanGrade_L23 {p : Program} {l : Launch} {e : Env} {s : State} {m : MethodId} {args : Array Value} {below : List Frame} {meth : Method} {c0 : Code} {D : va_G} {G : Nat → ClassId} {ad : Nat → Nat}   {rF : UInt64} {wF : qMem}  (hC : qCx p c0 cX6_meanGrade 4 s m args meth RX6 D G ad) (hr : meth.sig.returnType = some .double)  : ∀ (n : Nat), ∀ (w : qMem) (x1 : Int32) (x2 : Int32) (x3 : Int32) (H : Heap) (locs : List Loc) (ls : Array Slot), fX6_meanGrade_L23 n w x1 x2 x3 = some (rF, wF) → qRp D G ad s w H locs → lv_has ls 4 [(0, .ref (ad 238)), (1, .int x1), (2, .int x2), (3, .int x3)] → W p l e (qrm 3 0 0) s m args below meth c0 H locs 0 0 (MQ below (qQD D G ad s wF rF) args s 0 0 (qAdr ad s.heap.size)) (F0 m 23 ls []) := by
  have hx := hC.1
  have hb := hC.2.1
  intro n
  induction n with
  | zero => intro w x1 x2 x3 H locs ls hf; exact nomatch (show (none : Option (UInt64 × qMem)) = some _ from hf)
  | succ n ih =>
    intro w x1 x2 x3 H locs ls hf hR hl
    rw [fX6_meanGrade_L23] at hf
    refine lv_iload_n hx hb dX6_meanGrade_23 rfl (lv_at hl 3 rfl) ?_
    refine lv_aload_n hx hb dX6_meanGrade_24 rfl (lv_at hl 0 rfl) ?_
    refine qget_X6_0 hC hR qk_1125 dX6_meanGrade_25 ?_
    refine lv_iconst (v := 0) hx hb dX6_meanGrade_28 (by decide) ?_
    refine q_ild hC hR (j := 0) (by decide) (qsh_239 G ad _) (by decide) (by decide) dX6_meanGrade_29 ?_
    refine lv_icmp_ge (tgt := 62) hx hb dX6_meanGrade_30 (by decide) (fun c_5 => ?_) (fun c_5 => ?_)
    · have hf := qif_t hf c_5
      refine lv_aload_n hx hb dX6_meanGrade_62 rfl (lv_at hl 0 rfl) ?_
      refine qget_X6_7 hC hR qk_1132 dX6_meanGrade_63 ?_
      refine lv_if_le (tgt := 73) hx hb dX6_meanGrade_66 (by decide) (fun c_6 => ?_) (fun c_6 => ?_)
      · have hf := qif_t hf c_6
        refine lv_iload_n hx hb dX6_meanGrade_73 rfl (lv_at hl 2 rfl) ?_
        refine lv_i2d hx hb dX6_meanGrade_74 ?_
        refine lv_iload_n hx hb dX6_meanGrade_75 rfl (lv_at hl 1 rfl) ?_
        refine lv_i2d hx hb dX6_meanGrade_76 ?_
        obtain ⟨g7, hf⟩ := qgd hf
        refine lv_ddiv hx hb dX6_meanGrade_77 (qn64_ok g7) ?_
        exact q_dret hC hR hr (qso2 hf).1 (qso2 hf).2 dX6_meanGrade_78
      · have hf := qif_f hf c_6
        refine lv_dconst0 hx hb dX6_meanGrade_69 ?_
        refine lv_goto (tgt := 78) hx hb dX6_meanGrade_70 (by decide) ?_
        exact q_dret hC hR hr (qso2 hf).1 (qso2 hf).2 dX6_meanGrade_78
    · have hf := qif_f hf c_5
      refine lv_iload_n hx hb dX6_meanGrade_33 rfl (lv_at hl 2 rfl) ?_
      refine lv_aload_n hx hb dX6_meanGrade_34 rfl (lv_at hl 0 rfl) ?_
      refine lv_iload_n hx hb dX6_meanGrade_35 rfl (lv_at hl 3 rfl) ?_
      refine lv_iconst (v := 0) hx hb dX6_meanGrade_36 (by decide) ?_
      obtain ⟨r9, hq8, hf⟩ := qbd_s hf
      refine q_callVi hC hR (mX6_of (qJ hC) hq8) (by decide) (qsh_238 G ad _) rfl qk_1230 qk_1232 qk_23 qk_64 qk_1233 qhd_X6_of ⟨Nat.le_of_ble_eq_true rfl, Nat.le_of_ble_eq_true rfl⟩ hl.1 rfl (Nat.le_of_ble_eq_true rfl) dX6_meanGrade_37 ⟨Nat.zero_le _, Nat.zero_le _⟩ (fun H locs hR => ?_)
      refine lv_iconst (v := 1) hx hb dX6_meanGrade_40 (by decide) ?_
      refine lv_icmp_ne (tgt := 53) hx hb dX6_meanGrade_41 (by decide) (fun c_10 => ?_) (fun c_10 => ?_)
      · have hf := qif_f hf c_10
        refine lv_iconst (v := 0) hx hb dX6_meanGrade_53 (by decide) ?_
        refine lv_iadd hx hb dX6_meanGrade_54 ?_
        refine lv_topi (fun x11 ex11 => ?_)
        have hf := qnm_t hf ex11
        refine lv_istore_n (lv' := [(2, .int x11), (0, .ref (ad 238)), (1, .int x1), (3, .int x3)]) hx hb dX6_meanGrade_55 rfl hl (by decide) rfl (fun ls hl => ?_)
        obtain ⟨x12, ex12⟩ : ∃ y : Int32, y = x3 + 1 := ⟨_, rfl⟩
        have hf := qnm_t hf ex12
        refine lv_iinc (v := x12) (lv' := [(3, .int x12), (2, .int x11), (0, .ref (ad 238)), (1, .int x1)]) hx hb dX6_meanGrade_56 hl (k := 3) rfl (by rw [ex12]; rfl) (by decide) rfl (fun ls hl => ?_)
        refine lv_goto (tgt := 23) hx hb dX6_meanGrade_59 (by decide) ?_
        exact ih _ _ _ _ _ _ _ hf hR (lv_sub hl [2, 3, 1, 0] rfl)
      · have hf := qif_t hf c_10
        refine lv_aload_n hx hb dX6_meanGrade_44 rfl (lv_at hl 0 rfl) ?_
        refine lv_iload_n hx hb dX6_meanGrade_45 rfl (lv_at hl 3 rfl) ?_
        refine lv_iconst (v := 2) hx hb dX6_meanGrade_46 (by decide) ?_
        obtain ⟨r14, hq13, hf⟩ := qbd_s hf
        refine q_callVi hC hR (mX6_of (qJ hC) hq13) (by decide) (qsh_238 G ad _) rfl qk_1230 qk_1232 qk_23 qk_64 qk_1233 qhd_X6_of ⟨Nat.le_of_ble_eq_true rfl, Nat.le_of_ble_eq_true rfl⟩ hl.1 rfl (Nat.le_of_ble_eq_true rfl) dX6_meanGrade_47 ⟨Nat.zero_le _, Nat.zero_le _⟩ (fun H locs hR => ?_)
        refine lv_goto (tgt := 54) hx hb dX6_meanGrade_50 (by decide) ?_
        refine lv_iadd hx hb dX6_meanGrade_54 ?_
        refine lv_topi (fun x15 ex15 => ?_)
        have hf := qnm_t hf ex15
        refine lv_istore_n (lv' := [(2, .int x15), (0, .ref (ad 238)), (1, .int x1), (3, .int x3)]) hx hb dX6_meanGrade_55 rfl hl (by decide) rfl (fun ls hl => ?_)
        obtain ⟨x16, ex16⟩ : ∃ y : Int32, y = x3 + 1 := ⟨_, rfl⟩
        have hf := qnm_t hf ex16
        refine lv_iinc (v := x16) (lv' := [(3, .int x16), (2, .int x15), (0, .ref (ad 238)), (1, .int x1)]) hx hb dX6_meanGrade_56 hl (k := 3) rfl (by rw [ex16]; rfl) (by decide) rfl (fun ls hl => ?_)
        refine lv_goto (tgt := 23) hx hb dX6_meanGrade_59 (by decide) ?_
        exact ih _ _ _ _ _ _ _ hf hR (lv_sub hl [2, 3, 1, 0] rfl)
def fX6_meanGrade (w : qMem)   : Option (UInt64 × qMem) :=
  qbd (fX6_kindMany w 1) fun (r2 : Int32) =>
  if r2 = 0 then
    qnm (quw w 238 7 1) fun (w17 : qMem) =>
    fX6_meanGrade_L23 100 w17 r2 0 0
  else
    qnm (quw w 238 7 0) fun (w4 : qMem) =>
    fX6_meanGrade_L23 100 w4 r2 0 0
theorem qhd_X6_meanGrade : yX6_meanGrade.cls ≠ "java/lang/invoke/MethodHandle" ∧ yX6_meanGrade.cls ≠ "java/lang/invoke/VarHandle" ∧ (parseMethodDescriptor yX6_meanGrade.desc).map (fun d => d.parameters.length) = some 0 := ⟨by decide +kernel, by decide +kernel, by decide +kernel⟩
set_option maxHeartbeats 4000000 in
set_option maxRecDepth 100000 in
theorem mX6_meanGrade {l : Launch} {D : va_G} {G : Nat → ClassId} {ad : Nat → Nat} (hJ : qInj ad) {w : qMem}    {rF : UInt64} {wF : qMem} (hf : fX6_meanGrade w = some (rF, wF)) : qCMd l D G ad yX6_meanGrade cX6_meanGrade 4 (some .double) 3 0 0 [.ref (ad 238)] w rF wF := by
  refine q_start RX6 rfl (by decide +kernel) hJ (fun a b h => by simp only [qQI, qQV, qQR, qQD, qQF, h]) (Nat.le_of_ble_eq_true rfl) ?_
  intro p e s m args below meth c0 ls hC hr hR hl
  have hx := hC.1
  have hb := hC.2.1
  have hl : lv_has ls 4 [(0, .ref (ad 238))] := hl
  unfold fX6_meanGrade at hf
  refine lv_aload_n hx hb dX6_meanGrade_0 rfl (lv_at hl 0 rfl) ?_
  refine lv_iconst (v := 1) hx hb dX6_meanGrade_1 (by decide) ?_
  obtain ⟨r2, hq1, hf⟩ := qbd_s hf
  refine q_callVi hC hR (mX6_kindMany (qJ hC) hq1) (by decide) (qsh_238 G ad _) rfl qk_1325 qk_1327 qk_37 qk_64 qk_1328 qhd_X6_kindMany ⟨Nat.le_of_ble_eq_true rfl, Nat.le_of_ble_eq_true rfl⟩ hl.1 rfl (Nat.le_of_ble_eq_true rfl) dX6_meanGrade_2 ⟨Nat.zero_le _, Nat.zero_le _⟩ (fun H locs hR => ?_)
  refine lv_istore_n (lv' := [(1, .int r2), (0, .ref (ad 238))]) hx hb dX6_meanGrade_5 rfl hl (by decide) rfl (fun ls hl => ?_)
  refine lv_aload_n hx hb dX6_meanGrade_6 rfl (lv_at hl 1 rfl) ?_
  refine lv_iload_n hx hb dX6_meanGrade_7 rfl (lv_at hl 0 rfl) ?_
  refine lv_if_ne (tgt := 15) hx hb dX6_meanGrade_8 (by decide) (fun c_3 => ?_) (fun c_3 => ?_)
  · have hf := qif_f hf c_3
    refine lv_iconst (v := 0) hx hb dX6_meanGrade_15 (by decide) ?_
    refine qput_X6_7 hC hR qk_1132 ⟨rfl, rfl⟩ dX6_meanGrade_16 (fun w4 H locs ew4 hR => ?_)
    have hf := qnm_t hf ew4
    refine lv_iconst (v := 0) hx hb dX6_meanGrade_19 (by decide) ?_
    refine lv_istore_n (lv' := [(2, .int 0), (1, .int r2), (0, .ref (ad 238))]) hx hb dX6_meanGrade_20 rfl hl (by decide) rfl (fun ls hl => ?_)
    refine lv_iconst (v := 0) hx hb dX6_meanGrade_21 (by decide) ?_
    refine lv_istore_n (lv' := [(3, .int 0), (2, .int 0), (1, .int r2), (0, .ref (ad 238))]) hx hb dX6_meanGrade_22 rfl hl (by decide) rfl (fun ls hl => ?_)
    exact mX6_meanGrade_L23 hC hr 100 _ _ _ _ _ _ _ hf hR (lv_sub hl [3, 2, 1, 0] rfl)
  · have hf := qif_t hf c_3
    refine lv_iconst (v := 1) hx hb dX6_meanGrade_11 (by decide) ?_
    refine lv_goto (tgt := 16) hx hb dX6_meanGrade_12 (by decide) ?_
    refine qput_X6_7 hC hR qk_1132 ⟨rfl, rfl⟩ dX6_meanGrade_16 (fun w17 H locs ew17 hR => ?_)
    have hf := qnm_t hf ew17
    refine lv_iconst (v := 0) hx hb dX6_meanGrade_19 (by decide) ?_
    refine lv_istore_n (lv' := [(2, .int 0), (1, .int r2), (0, .ref (ad 238))]) hx hb dX6_meanGrade_20 rfl hl (by decide) rfl (fun ls hl => ?_)
    refine lv_iconst (v := 0) hx hb dX6_meanGrade_21 (by decide) ?_
    refine lv_istore_n (lv' := [(3, .int 0), (2, .int 0), (1, .int r2), (0, .ref (ad 238))]) hx hb dX6_meanGrade_22 rfl hl (by decide) rfl (fun ls hl => ?_)
    exact mX6_meanGrade_L23 hC hr 100 _ _ _ _ _ _ _ hf hR (lv_sub hl [3, 2, 1, 0] rfl)
-- X6.brokenShare
def fX6_brokenShare_L17   (w : qMem) (x1 : Int32) (s0 : Int32) : Option (UInt32 × qMem) :=
  qnm (quw w 238 7 s0) fun (w3 : qMem) =>
  if w3 238 7 ≤ 0 then
    qbd (fX6_brokenMany w3) fun (r6 : Int32) =>
    if qn32 (FP.fdiv (FP.i2f r6) (FP.i2f x1)) = true then
    some (FP.fdiv (FP.i2f r6) (FP.i2f x1), w3)
    else none
  else
    some (FP.fconst0, w3)
set_option maxHeartbeats 4000000 in
set_option maxRecDepth 100000 in
theorem mX6_brokenShare_L17 {p : Program} {l : Launch} {e : Env} {s : State} {m : MethodId} {args : Array Value} {below : List Frame} {meth : Method} {c0 : Code} {D : va_G} {G : Nat → ClassId} {ad : Nat → Nat}   {rF : UInt32} {wF : qMem}  (hC : qCx p c0 cX6_brokenShare 2 s m args meth RX6 D G ad) (hr : meth.sig.returnType = some .float)  : ∀ (w : qMem) (x1 : Int32) (s0 : Int32) (H : Heap) (locs : List Loc) (ls : Array Slot), fX6_brokenShare_L17 w x1 s0 = some (rF, wF) → qRp D G ad s w H locs → lv_has ls 2 [(0, .ref (ad 238)), (1, .int x1)] → W p l e (qrm 3 0 0) s m args below meth c0 H locs 0 0 (MQ below (qQF D G ad s wF rF) args s 0 0 (qAdr ad s.heap.size)) (F0 m 17 ls [.int s0, .ref (ad 238)]) := by
  have hx := hC.1
  have hb := hC.2.1
  intro w x1 s0 H locs ls hf hR hl
  unfold fX6_brokenShare_L17 at hf
  refine qput_X6_7 hC hR qk_1132 ⟨rfl, rfl⟩ dX6_brokenShare_17 (fun w3 H locs ew3 hR => ?_)
  have hf := qnm_t hf ew3
  refine lv_aload_n hx hb dX6_brokenShare_20 rfl (lv_at hl 0 rfl) ?_
  refine qget_X6_7 hC hR qk_1132 dX6_brokenShare_21 ?_
  refine lv_if_le (tgt := 31) hx hb dX6_brokenShare_24 (by decide) (fun c_4 => ?_) (fun c_4 => ?_)
  · have hf := qif_t hf c_4
    refine lv_aload_n hx hb dX6_brokenShare_31 rfl (lv_at hl 0 rfl) ?_
    obtain ⟨r6, hq5, hf⟩ := qbd_s hf
    refine q_callVi hC hR (mX6_brokenMany (qJ hC) hq5) (by decide) (qsh_238 G ad _) rfl qk_1767 qk_1769 qk_56 qk_64 qk_1770 qhd_X6_brokenMany ⟨Nat.le_of_ble_eq_true rfl, Nat.le_of_ble_eq_true rfl⟩ hl.1 rfl (Nat.le_of_ble_eq_true rfl) dX6_brokenShare_32 ⟨Nat.zero_le _, Nat.zero_le _⟩ (fun H locs hR => ?_)
    refine lv_i2f hx hb dX6_brokenShare_35 ?_
    refine lv_iload_n hx hb dX6_brokenShare_36 rfl (lv_at hl 1 rfl) ?_
    refine lv_i2f hx hb dX6_brokenShare_37 ?_
    obtain ⟨g7, hf⟩ := qgd hf
    refine lv_fdiv hx hb dX6_brokenShare_38 (qn32_ok g7) ?_
    exact q_fret hC hR hr (qso2 hf).1 (qso2 hf).2 dX6_brokenShare_39
  · have hf := qif_f hf c_4
    refine lv_fconst0 hx hb dX6_brokenShare_27 ?_
    refine lv_goto (tgt := 39) hx hb dX6_brokenShare_28 (by decide) ?_
    exact q_fret hC hR hr (qso2 hf).1 (qso2 hf).2 dX6_brokenShare_39
def fX6_brokenShare (w : qMem)   : Option (UInt32 × qMem) :=
  qnm (w 239 0) fun (x1 : Int32) =>
  if x1 = 0 then
    fX6_brokenShare_L17 w x1 1
  else
    fX6_brokenShare_L17 w x1 0
theorem qhd_X6_brokenShare : yX6_brokenShare.cls ≠ "java/lang/invoke/MethodHandle" ∧ yX6_brokenShare.cls ≠ "java/lang/invoke/VarHandle" ∧ (parseMethodDescriptor yX6_brokenShare.desc).map (fun d => d.parameters.length) = some 0 := ⟨by decide +kernel, by decide +kernel, by decide +kernel⟩
set_option maxHeartbeats 4000000 in
set_option maxRecDepth 100000 in
theorem mX6_brokenShare {l : Launch} {D : va_G} {G : Nat → ClassId} {ad : Nat → Nat} (hJ : qInj ad) {w : qMem}    {rF : UInt32} {wF : qMem} (hf : fX6_brokenShare w = some (rF, wF)) : qCMf l D G ad yX6_brokenShare cX6_brokenShare 2 (some .float) 3 0 0 [.ref (ad 238)] w rF wF := by
  refine q_start RX6 rfl (by decide +kernel) hJ (fun a b h => by simp only [qQI, qQV, qQR, qQD, qQF, h]) (Nat.le_of_ble_eq_true rfl) ?_
  intro p e s m args below meth c0 ls hC hr hR hl
  have hx := hC.1
  have hb := hC.2.1
  have hl : lv_has ls 2 [(0, .ref (ad 238))] := hl
  unfold fX6_brokenShare at hf
  refine lv_aload_n hx hb dX6_brokenShare_0 rfl (lv_at hl 0 rfl) ?_
  refine qget_X6_0 hC hR qk_1125 dX6_brokenShare_1 ?_
  refine lv_iconst (v := 0) hx hb dX6_brokenShare_4 (by decide) ?_
  refine q_ild hC hR (j := 0) (by decide) (qsh_239 G ad _) (by decide) (by decide) dX6_brokenShare_5 ?_
  refine lv_topi (fun x1 ex1 => ?_)
  have hf := qnm_t hf ex1
  refine lv_istore_n (lv' := [(1, .int x1), (0, .ref (ad 238))]) hx hb dX6_brokenShare_6 rfl hl (by decide) rfl (fun ls hl => ?_)
  refine lv_aload_n hx hb dX6_brokenShare_7 rfl (lv_at hl 1 rfl) ?_
  refine lv_iload_n hx hb dX6_brokenShare_8 rfl (lv_at hl 0 rfl) ?_
  refine lv_if_ne (tgt := 16) hx hb dX6_brokenShare_9 (by decide) (fun c_2 => ?_) (fun c_2 => ?_)
  · have hf := qif_f hf c_2
    refine lv_iconst (v := 0) hx hb dX6_brokenShare_16 (by decide) ?_
    exact mX6_brokenShare_L17 hC hr _ _ _ _ _ _ hf hR (lv_sub hl [1, 0] rfl)
  · have hf := qif_t hf c_2
    refine lv_iconst (v := 1) hx hb dX6_brokenShare_12 (by decide) ?_
    refine lv_goto (tgt := 17) hx hb dX6_brokenShare_13 (by decide) ?_
    exact mX6_brokenShare_L17 hC hr _ _ _ _ _ _ hf hR (lv_sub hl [1, 0] rfl)
