-- X4.nameOf
def fX4_nameOf (w : qMem)  (a1 : Int32) : Option (Nat) :=
  if a1 = 1 then
    some 0
  else
  if a1 = 2 then
    some 1
  else
  if a1 = 3 then
    some 2
  else
  if a1 = 4 then
    some 3
  else
  if a1 = 5 then
    some 4
  else
  if a1 = 6 then
    some 5
  else
  if a1 = 7 then
    some 6
  else
  if a1 = 8 then
    some 7
  else
  if a1 = 9 then
    some 8
  else
  some 9
theorem qhd_X4_nameOf : yX4_nameOf.cls ≠ "java/lang/invoke/MethodHandle" ∧ yX4_nameOf.cls ≠ "java/lang/invoke/VarHandle" ∧ (parseMethodDescriptor yX4_nameOf.desc).map (fun d => d.parameters.length) = some 1 := ⟨by decide +kernel, by decide +kernel, by decide +kernel⟩
set_option maxHeartbeats 4000000 in
set_option maxRecDepth 100000 in
theorem mX4_nameOf {l : Launch} {D : va_G} {G : Nat → ClassId} {ad : Nat → Nat} (hJ : qInj ad) {w : qMem}   {a1 : Int32} {rF : Nat} (hf : fX4_nameOf w a1 = some rF) : qCMr l D G ad yX4_nameOf cX4_nameOf 1 (some (.object "java/lang/String")) 1 0 0 [.int a1] w (1000 + rF) w := by
  refine q_start RX4 rfl (by decide +kernel) hJ (fun a b h => by simp only [qQI, qQV, qQR, qQD, qQF, h]) (Nat.le_of_ble_eq_true rfl) ?_
  intro p e s m args below meth c0 ls hC hr hR hl
  have hx := hC.1
  have hb := hC.2.1
  have hl : lv_has ls 1 [(0, .int a1)] := hl
  unfold fX4_nameOf at hf
  refine lv_iload_n hx hb dX4_nameOf_0 rfl (lv_at hl 0 rfl) ?_
  by_cases c_1 : a1 = 1
  · have hf := qif_t hf c_1
    refine lv_tableIn (off := 51) (tgt := 52) hx hb dX4_nameOf_1 (by rw [c_1]; decide) (by rw [c_1]; decide) (by rw [c_1]; decide) (by decide) ?_
    refine va_ldcS (q := ad 1000) hx hb hC.2.2.2.1 (hC.2.2.2.2.2.2.2.2.2.1 ("QuakeRehearsal$Script", 74, "cup", 0) (by decide +kernel)) dX4_nameOf_52 ?_
    exact q_aret (x := 1000 + 0) hC hR hr (by rw [← qso hf]) rfl dX4_nameOf_54
  have hf := qif_f hf c_1
  by_cases c_2 : a1 = 2
  · have hf := qif_t hf c_2
    refine lv_tableIn (off := 54) (tgt := 55) hx hb dX4_nameOf_1 (by rw [c_2]; decide) (by rw [c_2]; decide) (by rw [c_2]; decide) (by decide) ?_
    refine va_ldcS (q := ad 1001) hx hb hC.2.2.2.1 (hC.2.2.2.2.2.2.2.2.2.1 ("QuakeRehearsal$Script", 76, "lamp", 1) (by decide +kernel)) dX4_nameOf_55 ?_
    exact q_aret (x := 1000 + 1) hC hR hr (by rw [← qso hf]) rfl dX4_nameOf_57
  have hf := qif_f hf c_2
  by_cases c_3 : a1 = 3
  · have hf := qif_t hf c_3
    refine lv_tableIn (off := 57) (tgt := 58) hx hb dX4_nameOf_1 (by rw [c_3]; decide) (by rw [c_3]; decide) (by rw [c_3]; decide) (by decide) ?_
    refine va_ldcS (q := ad 1002) hx hb hC.2.2.2.1 (hC.2.2.2.2.2.2.2.2.2.1 ("QuakeRehearsal$Script", 78, "cat", 2) (by decide +kernel)) dX4_nameOf_58 ?_
    exact q_aret (x := 1000 + 2) hC hR hr (by rw [← qso hf]) rfl dX4_nameOf_60
  have hf := qif_f hf c_3
  by_cases c_4 : a1 = 4
  · have hf := qif_t hf c_4
    refine lv_tableIn (off := 60) (tgt := 61) hx hb dX4_nameOf_1 (by rw [c_4]; decide) (by rw [c_4]; decide) (by rw [c_4]; decide) (by decide) ?_
    refine va_ldcS (q := ad 1003) hx hb hC.2.2.2.1 (hC.2.2.2.2.2.2.2.2.2.1 ("QuakeRehearsal$Script", 80, "take", 3) (by decide +kernel)) dX4_nameOf_61 ?_
    exact q_aret (x := 1000 + 3) hC hR hr (by rw [← qso hf]) rfl dX4_nameOf_63
  have hf := qif_f hf c_4
  by_cases c_5 : a1 = 5
  · have hf := qif_t hf c_5
    refine lv_tableIn (off := 63) (tgt := 64) hx hb dX4_nameOf_1 (by rw [c_5]; decide) (by rw [c_5]; decide) (by rw [c_5]; decide) (by decide) ?_
    refine va_ldcS (q := ad 1004) hx hb hC.2.2.2.1 (hC.2.2.2.2.2.2.2.2.2.1 ("QuakeRehearsal$Script", 82, "cue", 4) (by decide +kernel)) dX4_nameOf_64 ?_
    exact q_aret (x := 1000 + 4) hC hR hr (by rw [← qso hf]) rfl dX4_nameOf_66
  have hf := qif_f hf c_5
  by_cases c_6 : a1 = 6
  · have hf := qif_t hf c_6
    refine lv_tableIn (off := 66) (tgt := 67) hx hb dX4_nameOf_1 (by rw [c_6]; decide) (by rw [c_6]; decide) (by rw [c_6]; decide) (by decide) ?_
    refine va_ldcS (q := ad 1005) hx hb hC.2.2.2.1 (hC.2.2.2.2.2.2.2.2.2.1 ("QuakeRehearsal$Script", 84, "set", 5) (by decide +kernel)) dX4_nameOf_67 ?_
    exact q_aret (x := 1000 + 5) hC hR hr (by rw [← qso hf]) rfl dX4_nameOf_69
  have hf := qif_f hf c_6
  by_cases c_7 : a1 = 7
  · have hf := qif_t hf c_7
    refine lv_tableIn (off := 69) (tgt := 70) hx hb dX4_nameOf_1 (by rw [c_7]; decide) (by rw [c_7]; decide) (by rw [c_7]; decide) (by decide) ?_
    refine va_ldcS (q := ad 1006) hx hb hC.2.2.2.1 (hC.2.2.2.2.2.2.2.2.2.1 ("QuakeRehearsal$Script", 86, "shock", 6) (by decide +kernel)) dX4_nameOf_70 ?_
    exact q_aret (x := 1000 + 6) hC hR hr (by rw [← qso hf]) rfl dX4_nameOf_72
  have hf := qif_f hf c_7
  by_cases c_8 : a1 = 8
  · have hf := qif_t hf c_8
    refine lv_tableIn (off := 72) (tgt := 73) hx hb dX4_nameOf_1 (by rw [c_8]; decide) (by rw [c_8]; decide) (by rw [c_8]; decide) (by decide) ?_
    refine va_ldcS (q := ad 1007) hx hb hC.2.2.2.1 (hC.2.2.2.2.2.2.2.2.2.1 ("QuakeRehearsal$Script", 88, "add", 7) (by decide +kernel)) dX4_nameOf_73 ?_
    exact q_aret (x := 1000 + 7) hC hR hr (by rw [← qso hf]) rfl dX4_nameOf_75
  have hf := qif_f hf c_8
  by_cases c_9 : a1 = 9
  · have hf := qif_t hf c_9
    refine lv_tableIn (off := 75) (tgt := 76) hx hb dX4_nameOf_1 (by rw [c_9]; decide) (by rw [c_9]; decide) (by rw [c_9]; decide) (by decide) ?_
    refine va_ldcS (q := ad 1008) hx hb hC.2.2.2.1 (hC.2.2.2.2.2.2.2.2.2.1 ("QuakeRehearsal$Script", 90, "perform", 8) (by decide +kernel)) dX4_nameOf_76 ?_
    exact q_aret (x := 1000 + 8) hC hR hr (by rw [← qso hf]) rfl dX4_nameOf_78
  have hf := qif_f hf c_9
  refine lv_tableOut (tgt := 79) hx hb dX4_nameOf_1 (by have hc_1 := qne (z := 1) c_1 rfl; have hc_2 := qne (z := 2) c_2 rfl; have hc_3 := qne (z := 3) c_3 rfl; have hc_4 := qne (z := 4) c_4 rfl; have hc_5 := qne (z := 5) c_5 rfl; have hc_6 := qne (z := 6) c_6 rfl; have hc_7 := qne (z := 7) c_7 rfl; have hc_8 := qne (z := 8) c_8 rfl; have hc_9 := qne (z := 9) c_9 rfl; omega) (by decide) ?_
  refine va_ldcS (q := ad 1009) hx hb hC.2.2.2.1 (hC.2.2.2.2.2.2.2.2.2.1 ("QuakeRehearsal$Script", 92, "quiet", 9) (by decide +kernel)) dX4_nameOf_79 ?_
  exact q_aret (x := 1000 + 9) hC hR hr (by rw [← qso hf]) rfl dX4_nameOf_81
-- X4.countAlike
def fX4_countAlike_L2 (w : qMem) (ts1 : List Int32)  : Nat → Int32 → Option (Int32)
  | 0, _ => none
  | n + 1, x2 =>
    if Int32.ofNat ts1.length ≤ x2 then
      some (Int32.ofNat ts1.length)
    else
      if qin x2 ts1.length = true then
      qbd (fX4_isNext w ((w 231 6) + x2) (ts1.getD (x2).toNatClampNeg 0)) fun (r4 : Int32) =>
      if r4 = 0 then
        some (x2)
      else
        qnm (x2 + 1) fun (x6 : Int32) =>
        fX4_countAlike_L2 w ts1 n x6
      else none
set_option maxHeartbeats 4000000 in
set_option maxRecDepth 100000 in
theorem mX4_countAlike_L2 {p : Program} {l : Launch} {e : Env} {s : State} {m : MethodId} {args : Array Value} {below : List Frame} {meth : Method} {c0 : Code} {D : va_G} {G : Nat → ClassId} {ad : Nat → Nat} {qs1 : Nat} {w : qMem} {ts1 : List Int32}  {rF : Int32}  (hC : qCx p c0 cX4_countAlike 3 s m args meth RX4 D G ad) (hr : meth.sig.returnType = some .int) (hE1 : qSt qs1 ts1 (qAdr ad s.heap.size) s s.heap)  : ∀ (n : Nat), ∀ (x2 : Int32) (H : Heap) (locs : List Loc) (ls : Array Slot), fX4_countAlike_L2 w ts1 n x2 = some rF → qRp D G ad s w H locs → lv_has ls 3 [(0, .ref (ad 231)), (1, .ref qs1), (2, .int x2)] → W p l e (qrm 5 0 0) s m args below meth c0 H locs 0 0 (MQ below (qQI D G ad s w rF) args s 0 0 (qAdr ad s.heap.size)) (F0 m 2 ls []) := by
  have hx := hC.1
  have hb := hC.2.1
  intro n
  induction n with
  | zero => intro x2 H locs ls hf; exact nomatch (show (none : Option (Int32)) = some _ from hf)
  | succ n ih =>
    intro x2 H locs ls hf hR hl
    rw [fX4_countAlike_L2] at hf
    refine lv_iload_n hx hb dX4_countAlike_2 rfl (lv_at hl 2 rfl) ?_
    refine lv_aload_n hx hb dX4_countAlike_3 rfl (lv_at hl 1 rfl) ?_
    refine q_callYVi hC hR (mJ0_length (t := ts1) (qJ hC)) qSt_k (qX_now qSt_k hE1 hR) (qSt_rc (qX_now qSt_k hE1 hR)) qkj_1295 qkj_1039 qkj_1040 qkj_34 qkj_1041 qhd_J0_length_8abf5 ⟨Nat.le_of_ble_eq_true rfl, Nat.le_of_ble_eq_true rfl⟩ hl.1 rfl (Nat.le_of_ble_eq_true rfl) dX4_countAlike_4 ⟨Nat.zero_le _, Nat.zero_le _⟩ (fun H locs hz hk hR => ?_)
    refine lv_icmp_ge (tgt := 36) hx hb dX4_countAlike_7 (by decide) (fun c_1 => ?_) (fun c_1 => ?_)
    · have hf := qif_t hf c_1
      refine lv_aload_n hx hb dX4_countAlike_36 rfl (lv_at hl 1 rfl) ?_
      refine q_callYVi hC hR (mJ0_length (t := ts1) (qJ hC)) qSt_k (qX_now qSt_k hE1 hR) (qSt_rc (qX_now qSt_k hE1 hR)) qkj_1295 qkj_1039 qkj_1040 qkj_34 qkj_1041 qhd_J0_length_8abf5 ⟨Nat.le_of_ble_eq_true rfl, Nat.le_of_ble_eq_true rfl⟩ hl.1 rfl (Nat.le_of_ble_eq_true rfl) dX4_countAlike_37 ⟨Nat.zero_le _, Nat.zero_le _⟩ (fun H locs hz hk hR => ?_)
      exact q_iret hC hR hr rfl (qso hf) rfl dX4_countAlike_40
    · have hf := qif_f hf c_1
      refine lv_aload_n hx hb dX4_countAlike_10 rfl (lv_at hl 0 rfl) ?_
      refine lv_aload_n hx hb dX4_countAlike_11 rfl (lv_at hl 0 rfl) ?_
      refine qget_X4_6 hC hR qk_195 dX4_countAlike_12 ?_
      refine lv_iload_n hx hb dX4_countAlike_15 rfl (lv_at hl 2 rfl) ?_
      refine lv_iadd hx hb dX4_countAlike_16 ?_
      refine lv_aload_n hx hb dX4_countAlike_17 rfl (lv_at hl 1 rfl) ?_
      refine lv_iload_n hx hb dX4_countAlike_18 rfl (lv_at hl 2 rfl) ?_
      obtain ⟨g2, hf⟩ := qgd hf
      refine q_callYVi hC hR (mJ0_charAt (t := ts1) (qJ hC) g2) qSt_k (qX_now qSt_k hE1 hR) (qSt_rc (qX_now qSt_k hE1 hR)) qkj_1296 qkj_903 qkj_904 qkj_34 qkj_905 qhd_J0_charAt_5068e ⟨Nat.le_of_ble_eq_true rfl, Nat.le_of_ble_eq_true rfl⟩ hl.1 rfl (Nat.le_of_ble_eq_true rfl) dX4_countAlike_19 ⟨Nat.zero_le _, Nat.zero_le _⟩ (fun H locs hz hk hR => ?_)
      obtain ⟨r4, hq3, hf⟩ := qbd_s hf
      refine q_callVi hC hR (mX4_isNext (qJ hC) hq3) (by decide) (qsh_231 G ad _) rfl qk_1297 qk_1298 qk_1299 qk_23 qk_1300 qhd_X4_isNext ⟨Nat.le_of_ble_eq_true rfl, Nat.le_of_ble_eq_true rfl⟩ hl.1 rfl (Nat.le_of_ble_eq_true rfl) dX4_countAlike_22 ⟨Nat.zero_le _, Nat.zero_le _⟩ (fun H locs hR => ?_)
      refine lv_if_ne (tgt := 30) hx hb dX4_countAlike_25 (by decide) (fun c_5 => ?_) (fun c_5 => ?_)
      · have hf := qif_f hf c_5
        obtain ⟨x6, ex6⟩ : ∃ y : Int32, y = x2 + 1 := ⟨_, rfl⟩
        have hf := qnm_t hf ex6
        refine lv_iinc (v := x6) (lv' := [(2, .int x6), (0, .ref (ad 231)), (1, .ref qs1)]) hx hb dX4_countAlike_30 hl (k := 2) rfl (by rw [ex6]; rfl) (by decide) rfl (fun ls hl => ?_)
        refine lv_goto (tgt := 2) hx hb dX4_countAlike_33 (by decide) ?_
        exact ih _ _ _ _ hf hR (lv_sub hl [1, 2, 0] rfl)
      · have hf := qif_t hf c_5
        refine lv_iload_n hx hb dX4_countAlike_28 rfl (lv_at hl 2 rfl) ?_
        exact q_iret hC hR hr rfl (qso hf) rfl dX4_countAlike_29
def fX4_countAlike (w : qMem) (ts1 : List Int32)  : Option (Int32) :=
  fX4_countAlike_L2 w ts1 100 0
theorem qhd_X4_countAlike : yX4_countAlike.cls ≠ "java/lang/invoke/MethodHandle" ∧ yX4_countAlike.cls ≠ "java/lang/invoke/VarHandle" ∧ (parseMethodDescriptor yX4_countAlike.desc).map (fun d => d.parameters.length) = some 1 := ⟨by decide +kernel, by decide +kernel, by decide +kernel⟩
set_option maxHeartbeats 4000000 in
set_option maxRecDepth 100000 in
theorem mX4_countAlike {l : Launch} {D : va_G} {G : Nat → ClassId} {ad : Nat → Nat} (hJ : qInj ad) {w : qMem} {qs1 : Nat} {ts1 : List Int32}   {rF : Int32} (hf : fX4_countAlike w ts1 = some rF) : qCY l D G ad yX4_countAlike cX4_countAlike 3 (some .int) 5 0 0 [.ref (ad 231), .ref qs1] w (qSt qs1 ts1) (fun st => qQI D G ad st w rF) := by
  refine q_startY RX4 rfl (by decide +kernel) hJ (fun a b h => by simp only [qQI, qQV, qQR, qQD, qQF, h]) (Nat.le_of_ble_eq_true rfl) ?_
  intro p e s m args below meth c0 ls hC hr hE1 hR hl
  have hx := hC.1
  have hb := hC.2.1
  have hl : lv_has ls 3 [(0, .ref (ad 231)), (1, .ref qs1)] := hl
  unfold fX4_countAlike at hf
  refine lv_iconst (v := 0) hx hb dX4_countAlike_0 (by decide) ?_
  refine lv_istore_n (lv' := [(2, .int 0), (0, .ref (ad 231)), (1, .ref qs1)]) hx hb dX4_countAlike_1 rfl hl (by decide) rfl (fun ls hl => ?_)
  exact mX4_countAlike_L2 hC hr hE1 100 _ _ _ _ hf hR (lv_sub hl [1, 2, 0] rfl)
-- X4.readWord
def fX4_readWord_L4   : Nat → qMem → Int32 → Int32 → Option (Int32 × qMem)
  | 0, _, _, _ => none
  | n + 1, w, x1, x2 =>
    if (10 : Int32) < x2 then
      qnm (quw w 231 6 ((w 231 6) + x1)) fun (w2 : qMem) =>
      some (0, w2)
    else
      qbd (fX4_nameOf w x2) fun (r4 : Nat) =>
      if r4 < 20 then
      qbd (fX4_countAlike w (qtx.getD r4 [])) fun (r7 : Int32) =>
      if r7 = Int32.ofNat (qtx.getD r4 []).length then
        qnm (quw w 231 6 ((w 231 6) + r7)) fun (w12 : qMem) =>
        some (x2, w12)
      else
        if r7 ≤ x1 then
          qnm (x2 + 1) fun (x10 : Int32) =>
          fX4_readWord_L4 n w x1 x10
        else
          qnm (x2 + 1) fun (x11 : Int32) =>
          fX4_readWord_L4 n w r7 x11
      else none
set_option maxHeartbeats 4000000 in
set_option maxRecDepth 100000 in
theorem mX4_readWord_L4 {p : Program} {l : Launch} {e : Env} {s : State} {m : MethodId} {args : Array Value} {below : List Frame} {meth : Method} {c0 : Code} {D : va_G} {G : Nat → ClassId} {ad : Nat → Nat}   {rF : Int32} {wF : qMem}  (hC : qCx p c0 cX4_readWord 5 s m args meth RX4 D G ad) (hr : meth.sig.returnType = some .int)  : ∀ (n : Nat), ∀ (w : qMem) (x1 : Int32) (x2 : Int32) (H : Heap) (locs : List Loc) (ls : Array Slot), fX4_readWord_L4 n w x1 x2 = some (rF, wF) → qRp D G ad s w H locs → lv_has ls 5 [(0, .ref (ad 231)), (1, .int x1), (2, .int x2)] → W p l e (qrm 6 0 0) s m args below meth c0 H locs 0 0 (MQ below (qQI D G ad s wF rF) args s 0 0 (qAdr ad s.heap.size)) (F0 m 4 ls []) := by
  have hx := hC.1
  have hb := hC.2.1
  intro n
  induction n with
  | zero => intro w x1 x2 H locs ls hf; exact nomatch (show (none : Option (Int32 × qMem)) = some _ from hf)
  | succ n ih =>
    intro w x1 x2 H locs ls hf hR hl
    rw [fX4_readWord_L4] at hf
    refine lv_iload_n hx hb dX4_readWord_4 rfl (lv_at hl 2 rfl) ?_
    refine lv_bipush (v := 10) hx hb dX4_readWord_5 (by decide) ?_
    refine lv_icmp_gt (tgt := 59) hx hb dX4_readWord_7 (by decide) (fun c_1 => ?_) (fun c_1 => ?_)
    · have hf := qif_t hf c_1
      refine lv_aload_n hx hb dX4_readWord_59 rfl (lv_at hl 0 rfl) ?_
      refine lv_dup hx hb dX4_readWord_60 rfl ?_
      refine qget_X4_6 hC hR qk_195 dX4_readWord_61 ?_
      refine lv_iload_n hx hb dX4_readWord_64 rfl (lv_at hl 1 rfl) ?_
      refine lv_iadd hx hb dX4_readWord_65 ?_
      refine qput_X4_6 hC hR qk_195 ⟨rfl, rfl⟩ dX4_readWord_66 (fun w2 H locs ew2 hR => ?_)
      have hf := qnm_t hf ew2
      refine lv_iconst (v := 0) hx hb dX4_readWord_69 (by decide) ?_
      exact q_iret hC hR hr rfl (qso2 hf).1 (qso2 hf).2 dX4_readWord_70
    · have hf := qif_f hf c_1
      refine lv_iload_n hx hb dX4_readWord_10 rfl (lv_at hl 2 rfl) ?_
      obtain ⟨r4, hq3, hf⟩ := qbd_s hf
      obtain ⟨g5, hf⟩ := qgd hf
      refine q_callSr hC hR (mX4_nameOf (qJ hC) hq3) qk_1278 qk_1279 qk_23 qk_1280 qhd_X4_nameOf ⟨Nat.le_of_ble_eq_true rfl, Nat.le_of_ble_eq_true rfl⟩ hl.1 rfl (Nat.le_of_ble_eq_true rfl) dX4_readWord_11 ⟨Nat.zero_le _, Nat.zero_le _⟩ (fun H locs hR => ?_)
      refine lv_astore_n (lv' := [(3, .ref (ad (1000 + r4))), (0, .ref (ad 231)), (1, .int x1), (2, .int x2)]) hx hb dX4_readWord_14 rfl hl (by decide) rfl (fun ls hl => ?_)
      refine lv_aload_n hx hb dX4_readWord_15 rfl (lv_at hl 1 rfl) ?_
      refine lv_aload_n hx hb dX4_readWord_16 rfl (lv_at hl 0 rfl) ?_
      obtain ⟨r7, hq6, hf⟩ := qbd_s hf
      refine q_callYVi hC hR (mX4_countAlike (qJ hC) hq6) qSt_k (qX_now qSt_k (qSt_of hC g5) hR) (va_recv hC.2.2.2.2.2.2.1 hR.1 (ci := 7) (q0 := 231) rfl (by rw [qat G ad _ (by decide), (qsh_231 G ad _)])) qk_1291 qk_1292 qk_1293 qk_23 qk_1294 qhd_X4_countAlike ⟨Nat.le_of_ble_eq_true rfl, Nat.le_of_ble_eq_true rfl⟩ hl.1 rfl (Nat.le_of_ble_eq_true rfl) dX4_readWord_17 ⟨Nat.zero_le _, Nat.zero_le _⟩ (fun H locs hz hk hR => ?_)
      refine lv_istore (lv' := [(4, .int r7), (3, .ref (ad (1000 + r4))), (0, .ref (ad 231)), (1, .int x1), (2, .int x2)]) hx hb dX4_readWord_20 hl (by decide) rfl (fun ls hl => ?_)
      refine lv_iload hx hb dX4_readWord_22 (lv_at hl 0 rfl) ?_
      refine lv_aload_n hx hb dX4_readWord_24 rfl (lv_at hl 1 rfl) ?_
      refine q_callYVi hC hR (mJ0_length (t := (qtx.getD r4 [])) (qJ hC)) qSt_k (qX_now qSt_k (qSt_of hC g5) hR) (qSt_rc (qX_now qSt_k (qSt_of hC g5) hR)) qkj_1295 qkj_1039 qkj_1040 qkj_34 qkj_1041 qhd_J0_length_8abf5 ⟨Nat.le_of_ble_eq_true rfl, Nat.le_of_ble_eq_true rfl⟩ hl.1 rfl (Nat.le_of_ble_eq_true rfl) dX4_readWord_25 ⟨Nat.zero_le _, Nat.zero_le _⟩ (fun H locs hz hk hR => ?_)
      refine lv_icmp_ne (tgt := 44) hx hb dX4_readWord_28 (by decide) (fun c_8 => ?_) (fun c_8 => ?_)
      · have hf := qif_f hf c_8
        refine lv_iload hx hb dX4_readWord_44 (lv_at hl 0 rfl) ?_
        refine lv_iload_n hx hb dX4_readWord_46 rfl (lv_at hl 3 rfl) ?_
        refine lv_icmp_le (tgt := 53) hx hb dX4_readWord_47 (by decide) (fun c_9 => ?_) (fun c_9 => ?_)
        · have hf := qif_t hf c_9
          obtain ⟨x10, ex10⟩ : ∃ y : Int32, y = x2 + 1 := ⟨_, rfl⟩
          have hf := qnm_t hf ex10
          refine lv_iinc (v := x10) (lv' := [(2, .int x10), (4, .int r7), (3, .ref (ad (1000 + r4))), (0, .ref (ad 231)), (1, .int x1)]) hx hb dX4_readWord_53 hl (k := 4) rfl (by rw [ex10]; rfl) (by decide) rfl (fun ls hl => ?_)
          refine lv_goto (tgt := 4) hx hb dX4_readWord_56 (by decide) ?_
          exact ih _ _ _ _ _ _ hf hR (lv_sub hl [3, 4, 0] rfl)
        · have hf := qif_f hf c_9
          refine lv_iload hx hb dX4_readWord_50 (lv_at hl 0 rfl) ?_
          refine lv_istore_n (lv' := [(1, .int r7), (4, .int r7), (3, .ref (ad (1000 + r4))), (0, .ref (ad 231)), (2, .int x2)]) hx hb dX4_readWord_52 rfl hl (by decide) rfl (fun ls hl => ?_)
          obtain ⟨x11, ex11⟩ : ∃ y : Int32, y = x2 + 1 := ⟨_, rfl⟩
          have hf := qnm_t hf ex11
          refine lv_iinc (v := x11) (lv' := [(2, .int x11), (1, .int r7), (4, .int r7), (3, .ref (ad (1000 + r4))), (0, .ref (ad 231))]) hx hb dX4_readWord_53 hl (k := 4) rfl (by rw [ex11]; rfl) (by decide) rfl (fun ls hl => ?_)
          refine lv_goto (tgt := 4) hx hb dX4_readWord_56 (by decide) ?_
          exact ih _ _ _ _ _ _ hf hR (lv_sub hl [4, 1, 0] rfl)
      · have hf := qif_t hf c_8
        refine lv_aload_n hx hb dX4_readWord_31 rfl (lv_at hl 2 rfl) ?_
        refine lv_dup hx hb dX4_readWord_32 rfl ?_
        refine qget_X4_6 hC hR qk_195 dX4_readWord_33 ?_
        refine lv_iload hx hb dX4_readWord_36 (lv_at hl 0 rfl) ?_
        refine lv_iadd hx hb dX4_readWord_38 ?_
        refine qput_X4_6 hC hR qk_195 ⟨rfl, rfl⟩ dX4_readWord_39 (fun w12 H locs ew12 hR => ?_)
        have hf := qnm_t hf ew12
        refine lv_iload_n hx hb dX4_readWord_42 rfl (lv_at hl 4 rfl) ?_
        exact q_iret hC hR hr rfl (qso2 hf).1 (qso2 hf).2 dX4_readWord_43
def fX4_readWord (w : qMem)   : Option (Int32 × qMem) :=
  fX4_readWord_L4 100 w 0 1
theorem qhd_X4_readWord : yX4_readWord.cls ≠ "java/lang/invoke/MethodHandle" ∧ yX4_readWord.cls ≠ "java/lang/invoke/VarHandle" ∧ (parseMethodDescriptor yX4_readWord.desc).map (fun d => d.parameters.length) = some 0 := ⟨by decide +kernel, by decide +kernel, by decide +kernel⟩
set_option maxHeartbeats 4000000 in
set_option maxRecDepth 100000 in
theorem mX4_readWord {l : Launch} {D : va_G} {G : Nat → ClassId} {ad : Nat → Nat} (hJ : qInj ad) {w : qMem}    {rF : Int32} {wF : qMem} (hf : fX4_readWord w = some (rF, wF)) : qCMi l D G ad yX4_readWord cX4_readWord 5 (some .int) 6 0 0 [.ref (ad 231)] w rF wF := by
  refine q_start RX4 rfl (by decide +kernel) hJ (fun a b h => by simp only [qQI, qQV, qQR, qQD, qQF, h]) (Nat.le_of_ble_eq_true rfl) ?_
  intro p e s m args below meth c0 ls hC hr hR hl
  have hx := hC.1
  have hb := hC.2.1
  have hl : lv_has ls 5 [(0, .ref (ad 231))] := hl
  unfold fX4_readWord at hf
  refine lv_iconst (v := 0) hx hb dX4_readWord_0 (by decide) ?_
  refine lv_istore_n (lv' := [(1, .int 0), (0, .ref (ad 231))]) hx hb dX4_readWord_1 rfl hl (by decide) rfl (fun ls hl => ?_)
  refine lv_iconst (v := 1) hx hb dX4_readWord_2 (by decide) ?_
  refine lv_istore_n (lv' := [(2, .int 1), (1, .int 0), (0, .ref (ad 231))]) hx hb dX4_readWord_3 rfl hl (by decide) rfl (fun ls hl => ?_)
  exact mX4_readWord_L4 hC hr 100 _ _ _ _ _ _ hf hR (lv_sub hl [2, 1, 0] rfl)
-- X4.readOrder
def fX4_readOrder_L93   (w : qMem) (x1 : Int32) (x2 : Int32) (s0 : Int32) (s2 : Int32) : Option (Int32 × qMem) :=
  qbd2 (fX4_readNumber w s0) fun (r19 : Int32) (w20 : qMem) =>
  if qin s2 12 = true then
  qnm (quw w20 234 (s2).toNatClampNeg r19) fun (w22 : qMem) =>
  if qin x1 12 = true then
  if 0 ≤ w22 234 (x1).toNatClampNeg then
    if x2 = 4 then
      some (1, w22)
    else
      if x2 = 6 then
        some (1, w22)
      else
        if x2 = 8 then
          some (1, w22)
        else
          qbd2 (fX4_readNumber w22 1) fun (r29 : Int32) (w30 : qMem) =>
          if qin x1 12 = true then
          qnm (quw w30 235 (x1).toNatClampNeg r29) fun (w32 : qMem) =>
          if qin x1 12 = true then
          if w32 235 (x1).toNatClampNeg < 0 then
            some (0, w32)
          else
            some (1, w32)
          else none
          else none
  else
    some (0, w22)
  else none
  else none
set_option maxHeartbeats 4000000 in
set_option maxRecDepth 100000 in
theorem mX4_readOrder_L93 {p : Program} {l : Launch} {e : Env} {s : State} {m : MethodId} {args : Array Value} {below : List Frame} {meth : Method} {c0 : Code} {D : va_G} {G : Nat → ClassId} {ad : Nat → Nat}   {rF : Int32} {wF : qMem}  (hC : qCx p c0 cX4_readOrder 4 s m args meth RX4 D G ad) (hr : meth.sig.returnType = some .boolean)  : ∀ (w : qMem) (x1 : Int32) (x2 : Int32) (s0 : Int32) (s2 : Int32) (H : Heap) (locs : List Loc) (ls : Array Slot), fX4_readOrder_L93 w x1 x2 s0 s2 = some (rF, wF) → qRp D G ad s w H locs → lv_has ls 4 [(0, .ref (ad 231)), (1, .int x1), (2, .int x2)] → W p l e (qrm 7 0 0) s m args below meth c0 H locs 0 0 (MQ below (qQI D G ad s wF rF) args s 0 0 (qAdr ad s.heap.size)) (F0 m 93 ls [.int s0, .ref (ad 231), .int s2, .ref (ad 234)]) := by
  have hx := hC.1
  have hb := hC.2.1
  intro w x1 x2 s0 s2 H locs ls hf hR hl
  unfold fX4_readOrder_L93 at hf
  obtain ⟨r19, w20, hq18, hf⟩ := qbd2_s hf
  refine q_callVi hC hR (mX4_readNumber (qJ hC) hq18) (by decide) (qsh_231 G ad _) rfl qk_1301 qk_1302 qk_1303 qk_23 qk_1304 qhd_X4_readNumber ⟨Nat.le_of_ble_eq_true rfl, Nat.le_of_ble_eq_true rfl⟩ hl.1 rfl (Nat.le_of_ble_eq_true rfl) dX4_readOrder_93 ⟨Nat.zero_le _, Nat.zero_le _⟩ (fun H locs hR => ?_)
  obtain ⟨g21, hf⟩ := qgd hf
  refine q_ist hC hR (j := (s2).toNatClampNeg) (by decide) (fun f => qsh_234 G ad f) g21 rfl dX4_readOrder_96 (fun w22 H locs ew22 hR => ?_)
  have hf := qnm_t hf ew22
  refine lv_aload_n hx hb dX4_readOrder_97 rfl (lv_at hl 0 rfl) ?_
  refine qget_X4_3 hC hR qk_191 dX4_readOrder_98 ?_
  refine lv_iload_n hx hb dX4_readOrder_101 rfl (lv_at hl 1 rfl) ?_
  obtain ⟨g23, hf⟩ := qgd hf
  refine q_ild hC hR (j := (x1).toNatClampNeg) (by decide) (qsh_234 G ad _) g23 rfl dX4_readOrder_102 ?_
  refine lv_if_ge (tgt := 108) hx hb dX4_readOrder_103 (by decide) (fun c_24 => ?_) (fun c_24 => ?_)
  · have hf := qif_t hf c_24
    refine lv_iload_n hx hb dX4_readOrder_108 rfl (lv_at hl 2 rfl) ?_
    refine lv_iconst (v := 4) hx hb dX4_readOrder_109 (by decide) ?_
    refine lv_icmp_eq (tgt := 125) hx hb dX4_readOrder_110 (by decide) (fun c_25 => ?_) (fun c_25 => ?_)
    · have hf := qif_t hf c_25
      refine lv_iconst (v := 1) hx hb dX4_readOrder_125 (by decide) ?_
      exact q_iret hC hR hr (by decide) (qso2 hf).1 (qso2 hf).2 dX4_readOrder_126
    · have hf := qif_f hf c_25
      refine lv_iload_n hx hb dX4_readOrder_113 rfl (lv_at hl 2 rfl) ?_
      refine lv_bipush (v := 6) hx hb dX4_readOrder_114 (by decide) ?_
      refine lv_icmp_eq (tgt := 125) hx hb dX4_readOrder_116 (by decide) (fun c_26 => ?_) (fun c_26 => ?_)
      · have hf := qif_t hf c_26
        refine lv_iconst (v := 1) hx hb dX4_readOrder_125 (by decide) ?_
        exact q_iret hC hR hr (by decide) (qso2 hf).1 (qso2 hf).2 dX4_readOrder_126
      · have hf := qif_f hf c_26
        refine lv_iload_n hx hb dX4_readOrder_119 rfl (lv_at hl 2 rfl) ?_
        refine lv_bipush (v := 8) hx hb dX4_readOrder_120 (by decide) ?_
        refine lv_icmp_ne (tgt := 127) hx hb dX4_readOrder_122 (by decide) (fun c_27 => ?_) (fun c_27 => ?_)
        · have hf := qif_f hf c_27
          refine lv_aload_n hx hb dX4_readOrder_127 rfl (lv_at hl 0 rfl) ?_
          refine qget_X4_4 hC hR qk_192 dX4_readOrder_128 ?_
          refine lv_iload_n hx hb dX4_readOrder_131 rfl (lv_at hl 1 rfl) ?_
          refine lv_aload_n hx hb dX4_readOrder_132 rfl (lv_at hl 0 rfl) ?_
          refine lv_iconst (v := 1) hx hb dX4_readOrder_133 (by decide) ?_
          obtain ⟨r29, w30, hq28, hf⟩ := qbd2_s hf
          refine q_callVi hC hR (mX4_readNumber (qJ hC) hq28) (by decide) (qsh_231 G ad _) rfl qk_1301 qk_1302 qk_1303 qk_23 qk_1304 qhd_X4_readNumber ⟨Nat.le_of_ble_eq_true rfl, Nat.le_of_ble_eq_true rfl⟩ hl.1 rfl (Nat.le_of_ble_eq_true rfl) dX4_readOrder_134 ⟨Nat.zero_le _, Nat.zero_le _⟩ (fun H locs hR => ?_)
          obtain ⟨g31, hf⟩ := qgd hf
          refine q_ist hC hR (j := (x1).toNatClampNeg) (by decide) (fun f => qsh_235 G ad f) g31 rfl dX4_readOrder_137 (fun w32 H locs ew32 hR => ?_)
          have hf := qnm_t hf ew32
          refine lv_aload_n hx hb dX4_readOrder_138 rfl (lv_at hl 0 rfl) ?_
          refine qget_X4_4 hC hR qk_192 dX4_readOrder_139 ?_
          refine lv_iload_n hx hb dX4_readOrder_142 rfl (lv_at hl 1 rfl) ?_
          obtain ⟨g33, hf⟩ := qgd hf
          refine q_ild hC hR (j := (x1).toNatClampNeg) (by decide) (qsh_235 G ad _) g33 rfl dX4_readOrder_143 ?_
          refine lv_if_lt (tgt := 151) hx hb dX4_readOrder_144 (by decide) (fun c_34 => ?_) (fun c_34 => ?_)
          · have hf := qif_t hf c_34
            refine lv_iconst (v := 0) hx hb dX4_readOrder_151 (by decide) ?_
            exact q_iret hC hR hr (by decide) (qso2 hf).1 (qso2 hf).2 dX4_readOrder_152
          · have hf := qif_f hf c_34
            refine lv_iconst (v := 1) hx hb dX4_readOrder_147 (by decide) ?_
            refine lv_goto (tgt := 152) hx hb dX4_readOrder_148 (by decide) ?_
            exact q_iret hC hR hr (by decide) (qso2 hf).1 (qso2 hf).2 dX4_readOrder_152
        · have hf := qif_t hf c_27
          refine lv_iconst (v := 1) hx hb dX4_readOrder_125 (by decide) ?_
          exact q_iret hC hR hr (by decide) (qso2 hf).1 (qso2 hf).2 dX4_readOrder_126
  · have hf := qif_f hf c_24
    refine lv_iconst (v := 0) hx hb dX4_readOrder_106 (by decide) ?_
    exact q_iret hC hR hr (by decide) (qso2 hf).1 (qso2 hf).2 dX4_readOrder_107
def fX4_readOrder (w : qMem)  (a1 : Int32) : Option (Int32 × qMem) :=
  qbd2 (fX4_readWord w) fun (r2 : Int32) (w3 : qMem) =>
  if r2 = 0 then
    some (0, w3)
  else
    if a1 < 0 then
      some (0, w3)
    else
      if a1 < 12 then
        if qin a1 12 = true then
        qnm (quw w3 233 (a1).toNatClampNeg r2) fun (w8 : qMem) =>
        if qin a1 12 = true then
        qnm (quw w8 234 (a1).toNatClampNeg 0) fun (w10 : qMem) =>
        if qin a1 12 = true then
        qnm (quw w10 235 (a1).toNatClampNeg 0) fun (w12 : qMem) =>
        if r2 = 7 then
          some (1, w12)
        else
          if r2 = 9 then
            some (1, w12)
          else
            if r2 = 10 then
              some (1, w12)
            else
              if r2 = 4 then
                if (1 : Int32) = 0 then
                  fX4_readOrder_L93 w12 a1 r2 1 a1
                else
                  fX4_readOrder_L93 w12 a1 r2 2 a1
              else
                if r2 = 5 then
                  if (1 : Int32) = 0 then
                    fX4_readOrder_L93 w12 a1 r2 1 a1
                  else
                    fX4_readOrder_L93 w12 a1 r2 2 a1
                else
                  if (0 : Int32) = 0 then
                    fX4_readOrder_L93 w12 a1 r2 1 a1
                  else
                    fX4_readOrder_L93 w12 a1 r2 2 a1
        else none
        else none
        else none
      else
        some (0, w3)
theorem qhd_X4_readOrder : yX4_readOrder.cls ≠ "java/lang/invoke/MethodHandle" ∧ yX4_readOrder.cls ≠ "java/lang/invoke/VarHandle" ∧ (parseMethodDescriptor yX4_readOrder.desc).map (fun d => d.parameters.length) = some 1 := ⟨by decide +kernel, by decide +kernel, by decide +kernel⟩
set_option maxHeartbeats 4000000 in
set_option maxRecDepth 100000 in
theorem mX4_readOrder {l : Launch} {D : va_G} {G : Nat → ClassId} {ad : Nat → Nat} (hJ : qInj ad) {w : qMem}   {a1 : Int32} {rF : Int32} {wF : qMem} (hf : fX4_readOrder w a1 = some (rF, wF)) : qCMi l D G ad yX4_readOrder cX4_readOrder 4 (some .boolean) 7 0 0 [.ref (ad 231), .int a1] w rF wF := by
  refine q_start RX4 rfl (by decide +kernel) hJ (fun a b h => by simp only [qQI, qQV, qQR, qQD, qQF, h]) (Nat.le_of_ble_eq_true rfl) ?_
  intro p e s m args below meth c0 ls hC hr hR hl
  have hx := hC.1
  have hb := hC.2.1
  have hl : lv_has ls 4 [(0, .ref (ad 231)), (1, .int a1)] := hl
  unfold fX4_readOrder at hf
  refine lv_aload_n hx hb dX4_readOrder_0 rfl (lv_at hl 0 rfl) ?_
  obtain ⟨r2, w3, hq1, hf⟩ := qbd2_s hf
  refine q_callVi hC hR (mX4_readWord (qJ hC) hq1) (by decide) (qsh_231 G ad _) rfl qk_1274 qk_1275 qk_1276 qk_23 qk_1277 qhd_X4_readWord ⟨Nat.le_of_ble_eq_true rfl, Nat.le_of_ble_eq_true rfl⟩ hl.1 rfl (Nat.le_of_ble_eq_true rfl) dX4_readOrder_1 ⟨Nat.zero_le _, Nat.zero_le _⟩ (fun H locs hR => ?_)
  refine lv_istore_n (lv' := [(2, .int r2), (0, .ref (ad 231)), (1, .int a1)]) hx hb dX4_readOrder_4 rfl hl (by decide) rfl (fun ls hl => ?_)
  refine lv_iload_n hx hb dX4_readOrder_5 rfl (lv_at hl 0 rfl) ?_
  refine lv_if_eq (tgt := 19) hx hb dX4_readOrder_6 (by decide) (fun c_4 => ?_) (fun c_4 => ?_)
  · have hf := qif_t hf c_4
    refine lv_iconst (v := 0) hx hb dX4_readOrder_19 (by decide) ?_
    exact q_iret hC hR hr (by decide) (qso2 hf).1 (qso2 hf).2 dX4_readOrder_20
  · have hf := qif_f hf c_4
    refine lv_iload_n hx hb dX4_readOrder_9 rfl (lv_at hl 2 rfl) ?_
    refine lv_if_lt (tgt := 19) hx hb dX4_readOrder_10 (by decide) (fun c_5 => ?_) (fun c_5 => ?_)
    · have hf := qif_t hf c_5
      refine lv_iconst (v := 0) hx hb dX4_readOrder_19 (by decide) ?_
      exact q_iret hC hR hr (by decide) (qso2 hf).1 (qso2 hf).2 dX4_readOrder_20
    · have hf := qif_f hf c_5
      refine lv_iload_n hx hb dX4_readOrder_13 rfl (lv_at hl 2 rfl) ?_
      refine lv_bipush (v := 12) hx hb dX4_readOrder_14 (by decide) ?_
      refine lv_icmp_lt (tgt := 21) hx hb dX4_readOrder_16 (by decide) (fun c_6 => ?_) (fun c_6 => ?_)
      · have hf := qif_t hf c_6
        refine lv_aload_n hx hb dX4_readOrder_21 rfl (lv_at hl 1 rfl) ?_
        refine qget_X4_2 hC hR qk_190 dX4_readOrder_22 ?_
        refine lv_iload_n hx hb dX4_readOrder_25 rfl (lv_at hl 2 rfl) ?_
        refine lv_iload_n hx hb dX4_readOrder_26 rfl (lv_at hl 0 rfl) ?_
        obtain ⟨g7, hf⟩ := qgd hf
        refine q_ist hC hR (j := (a1).toNatClampNeg) (by decide) (fun f => qsh_233 G ad f) g7 rfl dX4_readOrder_27 (fun w8 H locs ew8 hR => ?_)
        have hf := qnm_t hf ew8
        refine lv_aload_n hx hb dX4_readOrder_28 rfl (lv_at hl 1 rfl) ?_
        refine qget_X4_3 hC hR qk_191 dX4_readOrder_29 ?_
        refine lv_iload_n hx hb dX4_readOrder_32 rfl (lv_at hl 2 rfl) ?_
        refine lv_iconst (v := 0) hx hb dX4_readOrder_33 (by decide) ?_
        obtain ⟨g9, hf⟩ := qgd hf
        refine q_ist hC hR (j := (a1).toNatClampNeg) (by decide) (fun f => qsh_234 G ad f) g9 rfl dX4_readOrder_34 (fun w10 H locs ew10 hR => ?_)
        have hf := qnm_t hf ew10
        refine lv_aload_n hx hb dX4_readOrder_35 rfl (lv_at hl 1 rfl) ?_
        refine qget_X4_4 hC hR qk_192 dX4_readOrder_36 ?_
        refine lv_iload_n hx hb dX4_readOrder_39 rfl (lv_at hl 2 rfl) ?_
        refine lv_iconst (v := 0) hx hb dX4_readOrder_40 (by decide) ?_
        obtain ⟨g11, hf⟩ := qgd hf
        refine q_ist hC hR (j := (a1).toNatClampNeg) (by decide) (fun f => qsh_235 G ad f) g11 rfl dX4_readOrder_41 (fun w12 H locs ew12 hR => ?_)
        have hf := qnm_t hf ew12
        refine lv_iload_n hx hb dX4_readOrder_42 rfl (lv_at hl 0 rfl) ?_
        refine lv_bipush (v := 7) hx hb dX4_readOrder_43 (by decide) ?_
        refine lv_icmp_eq (tgt := 60) hx hb dX4_readOrder_45 (by decide) (fun c_13 => ?_) (fun c_13 => ?_)
        · have hf := qif_t hf c_13
          refine lv_iconst (v := 1) hx hb dX4_readOrder_60 (by decide) ?_
          exact q_iret hC hR hr (by decide) (qso2 hf).1 (qso2 hf).2 dX4_readOrder_61
        · have hf := qif_f hf c_13
          refine lv_iload_n hx hb dX4_readOrder_48 rfl (lv_at hl 0 rfl) ?_
          refine lv_bipush (v := 9) hx hb dX4_readOrder_49 (by decide) ?_
          refine lv_icmp_eq (tgt := 60) hx hb dX4_readOrder_51 (by decide) (fun c_14 => ?_) (fun c_14 => ?_)
          · have hf := qif_t hf c_14
            refine lv_iconst (v := 1) hx hb dX4_readOrder_60 (by decide) ?_
            exact q_iret hC hR hr (by decide) (qso2 hf).1 (qso2 hf).2 dX4_readOrder_61
          · have hf := qif_f hf c_14
            refine lv_iload_n hx hb dX4_readOrder_54 rfl (lv_at hl 0 rfl) ?_
            refine lv_bipush (v := 10) hx hb dX4_readOrder_55 (by decide) ?_
            refine lv_icmp_ne (tgt := 62) hx hb dX4_readOrder_57 (by decide) (fun c_15 => ?_) (fun c_15 => ?_)
            · have hf := qif_f hf c_15
              refine lv_iload_n hx hb dX4_readOrder_62 rfl (lv_at hl 0 rfl) ?_
              refine lv_iconst (v := 4) hx hb dX4_readOrder_63 (by decide) ?_
              refine lv_icmp_eq (tgt := 72) hx hb dX4_readOrder_64 (by decide) (fun c_16 => ?_) (fun c_16 => ?_)
              · have hf := qif_t hf c_16
                refine lv_iconst (v := 1) hx hb dX4_readOrder_72 (by decide) ?_
                refine lv_goto (tgt := 77) hx hb dX4_readOrder_73 (by decide) ?_
                refine lv_istore_n (lv' := [(3, .int 1), (2, .int r2), (0, .ref (ad 231)), (1, .int a1)]) hx hb dX4_readOrder_77 rfl hl (by decide) rfl (fun ls hl => ?_)
                refine lv_aload_n hx hb dX4_readOrder_78 rfl (lv_at hl 2 rfl) ?_
                refine qget_X4_3 hC hR qk_191 dX4_readOrder_79 ?_
                refine lv_iload_n hx hb dX4_readOrder_82 rfl (lv_at hl 3 rfl) ?_
                refine lv_aload_n hx hb dX4_readOrder_83 rfl (lv_at hl 2 rfl) ?_
                refine lv_iload_n hx hb dX4_readOrder_84 rfl (lv_at hl 0 rfl) ?_
                refine lv_if_eq (tgt := 92) hx hb dX4_readOrder_85 (by decide) (fun c_17 => ?_) (fun c_17 => ?_)
                · have hf := qif_t hf c_17
                  refine lv_iconst (v := 1) hx hb dX4_readOrder_92 (by decide) ?_
                  exact mX4_readOrder_L93 hC hr _ _ _ _ _ _ _ _ hf hR (lv_sub hl [2, 3, 1] rfl)
                · have hf := qif_f hf c_17
                  refine lv_iconst (v := 2) hx hb dX4_readOrder_88 (by decide) ?_
                  refine lv_goto (tgt := 93) hx hb dX4_readOrder_89 (by decide) ?_
                  exact mX4_readOrder_L93 hC hr _ _ _ _ _ _ _ _ hf hR (lv_sub hl [2, 3, 1] rfl)
              · have hf := qif_f hf c_16
                refine lv_iload_n hx hb dX4_readOrder_67 rfl (lv_at hl 0 rfl) ?_
                refine lv_iconst (v := 5) hx hb dX4_readOrder_68 (by decide) ?_
                refine lv_icmp_ne (tgt := 76) hx hb dX4_readOrder_69 (by decide) (fun c_35 => ?_) (fun c_35 => ?_)
                · have hf := qif_f hf c_35
                  refine lv_iconst (v := 0) hx hb dX4_readOrder_76 (by decide) ?_
                  refine lv_istore_n (lv' := [(3, .int 0), (2, .int r2), (0, .ref (ad 231)), (1, .int a1)]) hx hb dX4_readOrder_77 rfl hl (by decide) rfl (fun ls hl => ?_)
                  refine lv_aload_n hx hb dX4_readOrder_78 rfl (lv_at hl 2 rfl) ?_
                  refine qget_X4_3 hC hR qk_191 dX4_readOrder_79 ?_
                  refine lv_iload_n hx hb dX4_readOrder_82 rfl (lv_at hl 3 rfl) ?_
                  refine lv_aload_n hx hb dX4_readOrder_83 rfl (lv_at hl 2 rfl) ?_
                  refine lv_iload_n hx hb dX4_readOrder_84 rfl (lv_at hl 0 rfl) ?_
                  refine lv_if_eq (tgt := 92) hx hb dX4_readOrder_85 (by decide) (fun c_36 => ?_) (fun c_36 => ?_)
                  · have hf := qif_t hf c_36
                    refine lv_iconst (v := 1) hx hb dX4_readOrder_92 (by decide) ?_
                    exact mX4_readOrder_L93 hC hr _ _ _ _ _ _ _ _ hf hR (lv_sub hl [2, 3, 1] rfl)
                  · have hf := qif_f hf c_36
                    refine lv_iconst (v := 2) hx hb dX4_readOrder_88 (by decide) ?_
                    refine lv_goto (tgt := 93) hx hb dX4_readOrder_89 (by decide) ?_
                    exact mX4_readOrder_L93 hC hr _ _ _ _ _ _ _ _ hf hR (lv_sub hl [2, 3, 1] rfl)
                · have hf := qif_t hf c_35
                  refine lv_iconst (v := 1) hx hb dX4_readOrder_72 (by decide) ?_
                  refine lv_goto (tgt := 77) hx hb dX4_readOrder_73 (by decide) ?_
                  refine lv_istore_n (lv' := [(3, .int 1), (2, .int r2), (0, .ref (ad 231)), (1, .int a1)]) hx hb dX4_readOrder_77 rfl hl (by decide) rfl (fun ls hl => ?_)
                  refine lv_aload_n hx hb dX4_readOrder_78 rfl (lv_at hl 2 rfl) ?_
                  refine qget_X4_3 hC hR qk_191 dX4_readOrder_79 ?_
                  refine lv_iload_n hx hb dX4_readOrder_82 rfl (lv_at hl 3 rfl) ?_
                  refine lv_aload_n hx hb dX4_readOrder_83 rfl (lv_at hl 2 rfl) ?_
                  refine lv_iload_n hx hb dX4_readOrder_84 rfl (lv_at hl 0 rfl) ?_
                  refine lv_if_eq (tgt := 92) hx hb dX4_readOrder_85 (by decide) (fun c_37 => ?_) (fun c_37 => ?_)
                  · have hf := qif_t hf c_37
                    refine lv_iconst (v := 1) hx hb dX4_readOrder_92 (by decide) ?_
                    exact mX4_readOrder_L93 hC hr _ _ _ _ _ _ _ _ hf hR (lv_sub hl [2, 3, 1] rfl)
                  · have hf := qif_f hf c_37
                    refine lv_iconst (v := 2) hx hb dX4_readOrder_88 (by decide) ?_
                    refine lv_goto (tgt := 93) hx hb dX4_readOrder_89 (by decide) ?_
                    exact mX4_readOrder_L93 hC hr _ _ _ _ _ _ _ _ hf hR (lv_sub hl [2, 3, 1] rfl)
            · have hf := qif_t hf c_15
              refine lv_iconst (v := 1) hx hb dX4_readOrder_60 (by decide) ?_
              exact q_iret hC hR hr (by decide) (qso2 hf).1 (qso2 hf).2 dX4_readOrder_61
      · have hf := qif_f hf c_6
        refine lv_iconst (v := 0) hx hb dX4_readOrder_19 (by decide) ?_
        exact q_iret hC hR hr (by decide) (qso2 hf).1 (qso2 hf).2 dX4_readOrder_20
-- X4.read
def fX4_read_L12   : Nat → qMem → Int32 → Option (Int32 × qMem)
  | 0, _, _ => none
  | n + 1, w, x1 =>
    if (12 : Int32) ≤ x1 then
      some (w 231 6, w)
    else
      qbd2 (fX4_readOrder w x1) fun (r5 : Int32) (w6 : qMem) =>
      if r5 = 0 then
        some (w6 231 6, w6)
      else
        qnm (quw w6 231 5 ((w6 231 5) + 1)) fun (w8 : qMem) =>
        if w8 231 6 < w8 231 1 then
          qbd2 (fX4_readSign w8 59) fun (r11 : Int32) (w12 : qMem) =>
          if r11 = 0 then
            some (w12 231 6, w12)
          else
            qnm (x1 + 1) fun (x14 : Int32) =>
            fX4_read_L12 n w12 x14
        else
          some ((-1), w8)
set_option maxHeartbeats 4000000 in
set_option maxRecDepth 100000 in
theorem mX4_read_L12 {p : Program} {l : Launch} {e : Env} {s : State} {m : MethodId} {args : Array Value} {below : List Frame} {meth : Method} {c0 : Code} {D : va_G} {G : Nat → ClassId} {ad : Nat → Nat}   {rF : Int32} {wF : qMem}  (hC : qCx p c0 cX4_read 2 s m args meth RX4 D G ad) (hr : meth.sig.returnType = some .int)  : ∀ (n : Nat), ∀ (w : qMem) (x1 : Int32) (H : Heap) (locs : List Loc) (ls : Array Slot), fX4_read_L12 n w x1 = some (rF, wF) → qRp D G ad s w H locs → lv_has ls 2 [(0, .ref (ad 231)), (1, .int x1)] → W p l e (qrm 8 0 0) s m args below meth c0 H locs 0 0 (MQ below (qQI D G ad s wF rF) args s 0 0 (qAdr ad s.heap.size)) (F0 m 12 ls []) := by
  have hx := hC.1
  have hb := hC.2.1
  intro n
  induction n with
  | zero => intro w x1 H locs ls hf; exact nomatch (show (none : Option (Int32 × qMem)) = some _ from hf)
  | succ n ih =>
    intro w x1 H locs ls hf hR hl
    rw [fX4_read_L12] at hf
    refine lv_iload_n hx hb dX4_read_12 rfl (lv_at hl 1 rfl) ?_
    refine lv_bipush (v := 12) hx hb dX4_read_13 (by decide) ?_
    refine lv_icmp_ge (tgt := 74) hx hb dX4_read_15 (by decide) (fun c_3 => ?_) (fun c_3 => ?_)
    · have hf := qif_t hf c_3
      refine lv_aload_n hx hb dX4_read_74 rfl (lv_at hl 0 rfl) ?_
      refine qget_X4_6 hC hR qk_195 dX4_read_75 ?_
      exact q_iret hC hR hr rfl (qso2 hf).1 (qso2 hf).2 dX4_read_78
    · have hf := qif_f hf c_3
      refine lv_aload_n hx hb dX4_read_18 rfl (lv_at hl 0 rfl) ?_
      refine lv_iload_n hx hb dX4_read_19 rfl (lv_at hl 1 rfl) ?_
      obtain ⟨r5, w6, hq4, hf⟩ := qbd2_s hf
      refine q_callVi hC hR (mX4_readOrder (qJ hC) hq4) (by decide) (qsh_231 G ad _) rfl qk_1270 qk_1271 qk_1272 qk_23 qk_1273 qhd_X4_readOrder ⟨Nat.le_of_ble_eq_true rfl, Nat.le_of_ble_eq_true rfl⟩ hl.1 rfl (Nat.le_of_ble_eq_true rfl) dX4_read_20 ⟨Nat.zero_le _, Nat.zero_le _⟩ (fun H locs hR => ?_)
      refine lv_if_ne (tgt := 31) hx hb dX4_read_23 (by decide) (fun c_7 => ?_) (fun c_7 => ?_)
      · have hf := qif_f hf c_7
        refine lv_aload_n hx hb dX4_read_31 rfl (lv_at hl 0 rfl) ?_
        refine lv_dup hx hb dX4_read_32 rfl ?_
        refine qget_X4_5 hC hR qk_193 dX4_read_33 ?_
        refine lv_iconst (v := 1) hx hb dX4_read_36 (by decide) ?_
        refine lv_iadd hx hb dX4_read_37 ?_
        refine qput_X4_5 hC hR qk_193 ⟨rfl, rfl⟩ dX4_read_38 (fun w8 H locs ew8 hR => ?_)
        have hf := qnm_t hf ew8
        refine lv_aload_n hx hb dX4_read_41 rfl (lv_at hl 0 rfl) ?_
        refine qget_X4_6 hC hR qk_195 dX4_read_42 ?_
        refine lv_aload_n hx hb dX4_read_45 rfl (lv_at hl 0 rfl) ?_
        refine qget_X4_1 hC hR qk_188 dX4_read_46 ?_
        refine lv_icmp_lt (tgt := 54) hx hb dX4_read_49 (by decide) (fun c_9 => ?_) (fun c_9 => ?_)
        · have hf := qif_t hf c_9
          refine lv_aload_n hx hb dX4_read_54 rfl (lv_at hl 0 rfl) ?_
          refine lv_bipush (v := 59) hx hb dX4_read_55 (by decide) ?_
          obtain ⟨r11, w12, hq10, hf⟩ := qbd2_s hf
          refine q_callVi hC hR (mX4_readSign (qJ hC) hq10) (by decide) (qsh_231 G ad _) rfl qk_1305 qk_1306 qk_1307 qk_23 qk_1308 qhd_X4_readSign ⟨Nat.le_of_ble_eq_true rfl, Nat.le_of_ble_eq_true rfl⟩ hl.1 rfl (Nat.le_of_ble_eq_true rfl) dX4_read_57 ⟨Nat.zero_le _, Nat.zero_le _⟩ (fun H locs hR => ?_)
          refine lv_if_ne (tgt := 68) hx hb dX4_read_60 (by decide) (fun c_13 => ?_) (fun c_13 => ?_)
          · have hf := qif_f hf c_13
            obtain ⟨x14, ex14⟩ : ∃ y : Int32, y = x1 + 1 := ⟨_, rfl⟩
            have hf := qnm_t hf ex14
            refine lv_iinc (v := x14) (lv' := [(1, .int x14), (0, .ref (ad 231))]) hx hb dX4_read_68 hl (k := 1) rfl (by rw [ex14]; rfl) (by decide) rfl (fun ls hl => ?_)
            refine lv_goto (tgt := 12) hx hb dX4_read_71 (by decide) ?_
            exact ih _ _ _ _ _ hf hR (lv_sub hl [1, 0] rfl)
          · have hf := qif_t hf c_13
            refine lv_aload_n hx hb dX4_read_63 rfl (lv_at hl 0 rfl) ?_
            refine qget_X4_6 hC hR qk_195 dX4_read_64 ?_
            exact q_iret hC hR hr rfl (qso2 hf).1 (qso2 hf).2 dX4_read_67
        · have hf := qif_f hf c_9
          refine lv_iconst (v := (-1)) hx hb dX4_read_52 (by decide) ?_
          exact q_iret hC hR hr rfl (qso2 hf).1 (qso2 hf).2 dX4_read_53
      · have hf := qif_t hf c_7
        refine lv_aload_n hx hb dX4_read_26 rfl (lv_at hl 0 rfl) ?_
        refine qget_X4_6 hC hR qk_195 dX4_read_27 ?_
        exact q_iret hC hR hr rfl (qso2 hf).1 (qso2 hf).2 dX4_read_30
def fX4_read (w : qMem)   : Option (Int32 × qMem) :=
  qnm (quw w 231 6 0) fun (w1 : qMem) =>
  qnm (quw w1 231 5 0) fun (w2 : qMem) =>
  fX4_read_L12 100 w2 0
theorem qhd_X4_read : yX4_read.cls ≠ "java/lang/invoke/MethodHandle" ∧ yX4_read.cls ≠ "java/lang/invoke/VarHandle" ∧ (parseMethodDescriptor yX4_read.desc).map (fun d => d.parameters.length) = some 0 := ⟨by decide +kernel, by decide +kernel, by decide +kernel⟩
set_option maxHeartbeats 4000000 in
set_option maxRecDepth 100000 in
theorem mX4_read {l : Launch} {D : va_G} {G : Nat → ClassId} {ad : Nat → Nat} (hJ : qInj ad) {w : qMem}    {rF : Int32} {wF : qMem} (hf : fX4_read w = some (rF, wF)) : qCMi l D G ad yX4_read cX4_read 2 (some .int) 8 0 0 [.ref (ad 231)] w rF wF := by
  refine q_start RX4 rfl (by decide +kernel) hJ (fun a b h => by simp only [qQI, qQV, qQR, qQD, qQF, h]) (Nat.le_of_ble_eq_true rfl) ?_
  intro p e s m args below meth c0 ls hC hr hR hl
  have hx := hC.1
  have hb := hC.2.1
  have hl : lv_has ls 2 [(0, .ref (ad 231))] := hl
  unfold fX4_read at hf
  refine lv_aload_n hx hb dX4_read_0 rfl (lv_at hl 0 rfl) ?_
  refine lv_iconst (v := 0) hx hb dX4_read_1 (by decide) ?_
  refine qput_X4_6 hC hR qk_195 ⟨rfl, rfl⟩ dX4_read_2 (fun w1 H locs ew1 hR => ?_)
  have hf := qnm_t hf ew1
  refine lv_aload_n hx hb dX4_read_5 rfl (lv_at hl 0 rfl) ?_
  refine lv_iconst (v := 0) hx hb dX4_read_6 (by decide) ?_
  refine qput_X4_5 hC hR qk_193 ⟨rfl, rfl⟩ dX4_read_7 (fun w2 H locs ew2 hR => ?_)
  have hf := qnm_t hf ew2
  refine lv_iconst (v := 0) hx hb dX4_read_10 (by decide) ?_
  refine lv_istore_n (lv' := [(1, .int 0), (0, .ref (ad 231))]) hx hb dX4_read_11 rfl hl (by decide) rfl (fun ls hl => ?_)
  exact mX4_read_L12 hC hr 100 _ _ _ _ _ hf hR (lv_sub hl [1, 0] rfl)
