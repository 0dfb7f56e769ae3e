-- X5.run
def fX5_run_L101   (w : qMem) (x1 : Int32) : Option (Nat × Int32 × qMem) :=
  if x1 = 0 then
    qbd (fX1_keepNote w) fun (w15 : qMem) =>
    some (0, w15 231 5, w15)
  else
    qbd (fX1_copyNoteTo w 0) fun (w12 : qMem) =>
    if x1 = 3 then
      some (2, 0, w12)
    else
      some (1, 0, w12)
set_option maxHeartbeats 4000000 in
set_option maxRecDepth 100000 in
theorem mX5_run_L101 {p : Program} {l : Launch} {e : Env} {s : State} {m : MethodId} {args : Array Value} {below : List Frame} {meth : Method} {c0 : Code} {D : va_G} {G : Nat → ClassId} {ad : Nat → Nat}   {cF : Nat} {rF : Int32} {wF : qMem}  (hC : qCx p c0 cX5_run 3 s m args meth RX5 D G ad) (hr : meth.sig.returnType = some .int) (hst : l.stackTraces = false) (ht : ∀ x ∈ c0.exceptionTable.toList, False)  : ∀ (w : qMem) (x1 : Int32) (H : Heap) (locs : List Loc) (ls : Array Slot), fX5_run_L101 w x1 = some (cF, rF, wF) → qRp D G ad s w H locs → lv_has ls 3 [(0, .ref (ad 228)), (1, .int x1)] → W p l e (qrm 9 1 6) s m args below meth c0 H locs 0 0 (vx_MQ below (qxQI D G ad s cF rF wF) (qXC D G ad s cF wF) args s 1 6 (qAdr ad s.heap.size)) (F0 m 101 ls []) := by
  have hx := hC.1
  have hb := hC.2.1
  intro w x1 H locs ls hf hR hl
  unfold fX5_run_L101 at hf
  refine lv_iload_n hx hb dX5_run_101 rfl (lv_at hl 1 rfl) ?_
  refine lv_if_ne (tgt := 120) hx hb dX5_run_102 (by decide) (fun c_10 => ?_) (fun c_10 => ?_)
  · have hf := qif_f hf c_10
    refine lv_aload_n hx hb dX5_run_120 rfl (lv_at hl 0 rfl) ?_
    refine qget_X5_3 hC hR qk_229 dX5_run_121 ?_
    refine lv_aload_n hx hb dX5_run_124 rfl (lv_at hl 0 rfl) ?_
    refine qget_X5_0 hC hR qk_226 dX5_run_125 ?_
    obtain ⟨w12, hq11, hf⟩ := qbd_s hf
    refine q_callVv hC hR (mX1_copyNoteTo (qJ hC) (show 0 < 12 by decide) hq11) (by decide) (qsh_229 G ad _) rfl qk_1326 qk_1327 qk_1328 qk_22 qk_1329 qhd_X1_copyNoteTo ⟨Nat.le_of_ble_eq_true rfl, Nat.le_of_ble_eq_true rfl⟩ hl.1 rfl (Nat.le_of_ble_eq_true rfl) dX5_run_128 ⟨Nat.le_of_ble_eq_true rfl, Nat.le_of_ble_eq_true rfl⟩ (fun H locs hR => ?_)
    refine lv_iload_n hx hb dX5_run_131 rfl (lv_at hl 1 rfl) ?_
    refine lv_iconst (v := 3) hx hb dX5_run_132 (by decide) ?_
    refine lv_icmp_ne (tgt := 146) hx hb dX5_run_133 (by decide) (fun c_13 => ?_) (fun c_13 => ?_)
    · have hf := qif_f hf c_13
      exact q_throw hC hR hst ht (code := cF) (E := "java/lang/IllegalArgumentException") (text := "an order cannot be carried out") (ik := 74) (is := 246) (ic := 78) (i := 43) (by rw [← (qso3 hf).1]; rfl) (by rw [← (qso3 hf).1]; decide) (qso3 hf).2.2 (by decide +kernel) qk_433 qxi_78 (by decide +kernel) qxw_78 hl.1 dX5_run_146 dX5_run_149 dX5_run_150 dX5_run_152 dX5_run_155 (Nat.le_of_ble_eq_true rfl) (Nat.le_of_ble_eq_true rfl) (Nat.le_of_ble_eq_true rfl) (Nat.le_of_ble_eq_true rfl) (Nat.le_of_ble_eq_true rfl) (Nat.le_of_ble_eq_true rfl)
    · have hf := qif_t hf c_13
      exact q_throw hC hR hst ht (code := cF) (E := "java/lang/UnsupportedOperationException") (text := "an order is refused") (ik := 79) (is := 244) (ic := 83) (i := 42) (by rw [← (qso3 hf).1]; rfl) (by rw [← (qso3 hf).1]; decide) (qso3 hf).2.2 (by decide +kernel) qk_505 qxi_83 (by decide +kernel) qxw_83 hl.1 dX5_run_136 dX5_run_139 dX5_run_140 dX5_run_142 dX5_run_145 (Nat.le_of_ble_eq_true rfl) (Nat.le_of_ble_eq_true rfl) (Nat.le_of_ble_eq_true rfl) (Nat.le_of_ble_eq_true rfl) (Nat.le_of_ble_eq_true rfl) (Nat.le_of_ble_eq_true rfl)
  · have hf := qif_t hf c_10
    refine lv_aload_n hx hb dX5_run_105 rfl (lv_at hl 0 rfl) ?_
    refine qget_X5_3 hC hR qk_229 dX5_run_106 ?_
    obtain ⟨w15, hq14, hf⟩ := qbd_s hf
    refine q_callVv hC hR (mX1_keepNote (qJ hC) hq14) (by decide) (qsh_229 G ad _) rfl qk_429 qk_430 qk_431 qk_22 qk_432 qhd_X1_keepNote ⟨Nat.le_of_ble_eq_true rfl, Nat.le_of_ble_eq_true rfl⟩ hl.1 rfl (Nat.le_of_ble_eq_true rfl) dX5_run_109 ⟨Nat.le_of_ble_eq_true rfl, Nat.le_of_ble_eq_true rfl⟩ (fun H locs hR => ?_)
    refine lv_aload_n hx hb dX5_run_112 rfl (lv_at hl 0 rfl) ?_
    refine qget_X5_4 hC hR qk_230 dX5_run_113 ?_
    refine qget_X4_5 hC hR qk_194 dX5_run_116 ?_
    exact qx_iret hC hR hr rfl (qso3 hf).1.symm (qso3 hf).2.1 (qso3 hf).2.2 dX5_run_119 (Nat.le_of_ble_eq_true rfl) (Nat.le_of_ble_eq_true rfl)
def fX5_run_L51   : Nat → qMem → Int32 → Int32 → Option (Nat × Int32 × qMem)
  | 0, _, _, _ => none
  | n + 1, w, x1, x2 =>
    if w 231 5 ≤ x2 then
      fX5_run_L101 w x1
    else
      if x1 = 0 then
        qbd (fX4_wordAt w x2) fun (r18 : Int32) =>
        qbd (fX4_firstAt w x2) fun (r20 : Int32) =>
        qbd (fX4_secondAt w x2) fun (r22 : Int32) =>
        qbd2 (fX5_tryOrder w r18 r20 r22) fun (r24 : Int32) (w25 : qMem) =>
        qnm (x2 + 1) fun (x26 : Int32) =>
        fX5_run_L51 n w25 r24 x26
      else
        fX5_run_L101 w x1
set_option maxHeartbeats 4000000 in
set_option maxRecDepth 100000 in
theorem mX5_run_L51 {p : Program} {l : Launch} {e : Env} {s : State} {m : MethodId} {args : Array Value} {below : List Frame} {meth : Method} {c0 : Code} {D : va_G} {G : Nat → ClassId} {ad : Nat → Nat}   {cF : Nat} {rF : Int32} {wF : qMem}  (hC : qCx p c0 cX5_run 3 s m args meth RX5 D G ad) (hr : meth.sig.returnType = some .int) (hst : l.stackTraces = false) (ht : ∀ x ∈ c0.exceptionTable.toList, False)  : ∀ (n : Nat), ∀ (w : qMem) (x1 : Int32) (x2 : Int32) (H : Heap) (locs : List Loc) (ls : Array Slot), fX5_run_L51 n w x1 x2 = some (cF, rF, wF) → qRp D G ad s w H locs → lv_has ls 3 [(0, .ref (ad 228)), (1, .int x1), (2, .int x2)] → W p l e (qrm 9 1 6) s m args below meth c0 H locs 0 0 (vx_MQ below (qxQI D G ad s cF rF wF) (qXC D G ad s cF wF) args s 1 6 (qAdr ad s.heap.size)) (F0 m 51 ls []) := by
  have hx := hC.1
  have hb := hC.2.1
  intro n
  induction n with
  | zero => intro w x1 x2 H locs ls hf; exact nomatch (show (none : Option (Nat × Int32 × qMem)) = some _ from hf)
  | succ n ih =>
    intro w x1 x2 H locs ls hf hR hl
    rw [fX5_run_L51] at hf
    refine lv_iload_n hx hb dX5_run_51 rfl (lv_at hl 2 rfl) ?_
    refine lv_aload_n hx hb dX5_run_52 rfl (lv_at hl 0 rfl) ?_
    refine qget_X5_4 hC hR qk_230 dX5_run_53 ?_
    refine qget_X4_5 hC hR qk_194 dX5_run_56 ?_
    refine lv_icmp_ge (tgt := 101) hx hb dX5_run_59 (by decide) (fun c_9 => ?_) (fun c_9 => ?_)
    · have hf := qif_t hf c_9
      exact mX5_run_L101 hC hr hst ht _ _ _ _ _ hf hR (lv_sub hl [0, 1] rfl)
    · have hf := qif_f hf c_9
      refine lv_iload_n hx hb dX5_run_62 rfl (lv_at hl 1 rfl) ?_
      refine lv_if_ne (tgt := 101) hx hb dX5_run_63 (by decide) (fun c_16 => ?_) (fun c_16 => ?_)
      · have hf := qif_f hf c_16
        exact mX5_run_L101 hC hr hst ht _ _ _ _ _ hf hR (lv_sub hl [0, 1] rfl)
      · have hf := qif_t hf c_16
        refine lv_aload_n hx hb dX5_run_66 rfl (lv_at hl 0 rfl) ?_
        refine lv_aload_n hx hb dX5_run_67 rfl (lv_at hl 0 rfl) ?_
        refine qget_X5_4 hC hR qk_230 dX5_run_68 ?_
        refine lv_iload_n hx hb dX5_run_71 rfl (lv_at hl 2 rfl) ?_
        obtain ⟨r18, hq17, hf⟩ := qbd_s hf
        refine q_callVi hC hR (mX4_wordAt (qJ hC) hq17) (by decide) (qsh_231 G ad _) rfl qk_1314 qk_1315 qk_1316 qk_23 qk_1317 qhd_X4_wordAt ⟨Nat.le_of_ble_eq_true rfl, Nat.le_of_ble_eq_true rfl⟩ hl.1 rfl (Nat.le_of_ble_eq_true rfl) dX5_run_72 ⟨Nat.le_of_ble_eq_true rfl, Nat.le_of_ble_eq_true rfl⟩ (fun H locs hR => ?_)
        refine lv_aload_n hx hb dX5_run_75 rfl (lv_at hl 0 rfl) ?_
        refine qget_X5_4 hC hR qk_230 dX5_run_76 ?_
        refine lv_iload_n hx hb dX5_run_79 rfl (lv_at hl 2 rfl) ?_
        obtain ⟨r20, hq19, hf⟩ := qbd_s hf
        refine q_callVi hC hR (mX4_firstAt (qJ hC) hq19) (by decide) (qsh_231 G ad _) rfl qk_1318 qk_1319 qk_1320 qk_23 qk_1321 qhd_X4_firstAt ⟨Nat.le_of_ble_eq_true rfl, Nat.le_of_ble_eq_true rfl⟩ hl.1 rfl (Nat.le_of_ble_eq_true rfl) dX5_run_80 ⟨Nat.le_of_ble_eq_true rfl, Nat.le_of_ble_eq_true rfl⟩ (fun H locs hR => ?_)
        refine lv_aload_n hx hb dX5_run_83 rfl (lv_at hl 0 rfl) ?_
        refine qget_X5_4 hC hR qk_230 dX5_run_84 ?_
        refine lv_iload_n hx hb dX5_run_87 rfl (lv_at hl 2 rfl) ?_
        obtain ⟨r22, hq21, hf⟩ := qbd_s hf
        refine q_callVi hC hR (mX4_secondAt (qJ hC) hq21) (by decide) (qsh_231 G ad _) rfl qk_1322 qk_1323 qk_1324 qk_23 qk_1325 qhd_X4_secondAt ⟨Nat.le_of_ble_eq_true rfl, Nat.le_of_ble_eq_true rfl⟩ hl.1 rfl (Nat.le_of_ble_eq_true rfl) dX5_run_88 ⟨Nat.le_of_ble_eq_true rfl, Nat.le_of_ble_eq_true rfl⟩ (fun H locs hR => ?_)
        obtain ⟨r24, w25, hq23, hf⟩ := qbd2_s hf
        refine q_callVi hC hR (mX5_tryOrder (qJ hC) hq23) (by decide) (qsh_228 G ad _) rfl qk_297 qk_299 qk_2 qk_19 qk_300 qhd_X5_tryOrder ⟨Nat.le_of_ble_eq_true rfl, Nat.le_of_ble_eq_true rfl⟩ hl.1 rfl (Nat.le_of_ble_eq_true rfl) dX5_run_91 ⟨Nat.le_of_ble_eq_true rfl, Nat.le_of_ble_eq_true rfl⟩ (fun H locs hR => ?_)
        refine lv_istore_n (lv' := [(1, .int r24), (0, .ref (ad 228)), (2, .int x2)]) hx hb dX5_run_94 rfl hl (by decide) rfl (fun ls hl => ?_)
        obtain ⟨x26, ex26⟩ : ∃ y : Int32, y = x2 + 1 := ⟨_, rfl⟩
        have hf := qnm_t hf ex26
        refine lv_iinc (v := x26) (lv' := [(2, .int x26), (1, .int r24), (0, .ref (ad 228))]) hx hb dX5_run_95 hl (k := 2) rfl (by rw [ex26]; rfl) (by decide) rfl (fun ls hl => ?_)
        refine lv_goto (tgt := 51) hx hb dX5_run_98 (by decide) ?_
        exact ih _ _ _ _ _ _ hf hR (lv_sub hl [2, 1, 0] rfl)
def fX5_run (w : qMem)   : Option (Nat × Int32 × qMem) :=
  qbd2 (fX4_read w) fun (r2 : Int32) (w3 : qMem) =>
  qnm (quw w3 228 7 r2) fun (w4 : qMem) =>
  qnm (quw w4 231 1 0) fun (w5 : qMem) =>
  if w5 228 7 < 0 then
    qbd (fX1_note w5 0) fun (w8 : qMem) =>
    fX5_run_L51 100 w8 0 0
  else
    some (1, 0, w5)
theorem qhd_X5_run : yX5_run.cls ≠ "java/lang/invoke/MethodHandle" ∧ yX5_run.cls ≠ "java/lang/invoke/VarHandle" ∧ (parseMethodDescriptor yX5_run.desc).map (fun d => d.parameters.length) = some 0 := ⟨by decide +kernel, by decide +kernel, by decide +kernel⟩
set_option maxHeartbeats 4000000 in
set_option maxRecDepth 100000 in
theorem mX5_run {l : Launch} {D : va_G} {G : Nat → ClassId} {ad : Nat → Nat} (hJ : qInj ad) (hst : l.stackTraces = false) {w : qMem}    {cF : Nat} {rF : Int32} {wF : qMem} (hf : fX5_run w = some (cF, rF, wF)) : qCX l D G ad yX5_run cX5_run 3 (some .int) 9 1 6 [.ref (ad 228)] w (fun st => qxQI D G ad st cF rF wF) cF wF := by
  refine qx_start RX5 rfl (by decide +kernel) hJ (fun a b h => by simp only [qxQI, qxQV, qxQR, qxQD, qxQF, h]) (Nat.le_of_ble_eq_true rfl) ?_
  intro p e s m args below meth c0 ls hC hr ht hR hl
  have hx := hC.1
  have hb := hC.2.1
  have hl : lv_has ls 3 [(0, .ref (ad 228))] := hl
  unfold fX5_run at hf
  refine lv_aload_n hx hb dX5_run_0 rfl (lv_at hl 0 rfl) ?_
  refine lv_aload_n hx hb dX5_run_1 rfl (lv_at hl 0 rfl) ?_
  refine qget_X5_4 hC hR qk_230 dX5_run_2 ?_
  obtain ⟨r2, w3, hq1, hf⟩ := qbd2_s hf
  refine q_callVi hC hR (mX4_read (qJ hC) hq1) (by decide) (qsh_231 G ad _) rfl qk_1266 qk_1267 qk_1268 qk_23 qk_1269 qhd_X4_read ⟨Nat.le_of_ble_eq_true rfl, Nat.le_of_ble_eq_true rfl⟩ hl.1 rfl (Nat.le_of_ble_eq_true rfl) dX5_run_5 ⟨Nat.le_of_ble_eq_true rfl, Nat.le_of_ble_eq_true rfl⟩ (fun H locs hR => ?_)
  refine qput_X5_7 hC hR qk_233 ⟨rfl, rfl⟩ dX5_run_8 (fun w4 H locs ew4 hR => ?_)
  have hf := qnm_t hf ew4
  refine lv_aload_n hx hb dX5_run_11 rfl (lv_at hl 0 rfl) ?_
  refine qget_X5_4 hC hR qk_230 dX5_run_12 ?_
  refine lv_iconst (v := 0) hx hb dX5_run_15 (by decide) ?_
  refine qput_X4_1 hC hR qk_189 ⟨rfl, rfl⟩ dX5_run_16 (fun w5 H locs ew5 hR => ?_)
  have hf := qnm_t hf ew5
  refine lv_aload_n hx hb dX5_run_19 rfl (lv_at hl 0 rfl) ?_
  refine qget_X5_7 hC hR qk_233 dX5_run_20 ?_
  refine lv_if_lt (tgt := 36) hx hb dX5_run_23 (by decide) (fun c_6 => ?_) (fun c_6 => ?_)
  · have hf := qif_t hf c_6
    refine lv_aload_n hx hb dX5_run_36 rfl (lv_at hl 0 rfl) ?_
    refine qget_X5_3 hC hR qk_229 dX5_run_37 ?_
    refine lv_aload_n hx hb dX5_run_40 rfl (lv_at hl 0 rfl) ?_
    refine qget_X5_0 hC hR qk_226 dX5_run_41 ?_
    obtain ⟨w8, hq7, hf⟩ := qbd_s hf
    refine q_callVv hC hR (mX1_note (qJ hC) (show 0 < 12 by decide) hq7) (by decide) (qsh_229 G ad _) rfl qk_281 qk_282 qk_283 qk_22 qk_284 qhd_X1_note ⟨Nat.le_of_ble_eq_true rfl, Nat.le_of_ble_eq_true rfl⟩ hl.1 rfl (Nat.le_of_ble_eq_true rfl) dX5_run_44 ⟨Nat.le_of_ble_eq_true rfl, Nat.le_of_ble_eq_true rfl⟩ (fun H locs hR => ?_)
    refine lv_iconst (v := 0) hx hb dX5_run_47 (by decide) ?_
    refine lv_istore_n (lv' := [(1, .int 0), (0, .ref (ad 228))]) hx hb dX5_run_48 rfl hl (by decide) rfl (fun ls hl => ?_)
    refine lv_iconst (v := 0) hx hb dX5_run_49 (by decide) ?_
    refine lv_istore_n (lv' := [(2, .int 0), (1, .int 0), (0, .ref (ad 228))]) hx hb dX5_run_50 rfl hl (by decide) rfl (fun ls hl => ?_)
    exact mX5_run_L51 hC hr hst ht 100 _ _ _ _ _ _ hf hR (lv_sub hl [2, 1, 0] rfl)
  · have hf := qif_f hf c_6
    exact q_throw hC hR hst ht (code := cF) (E := "java/lang/IllegalArgumentException") (text := "the text has an error") (ik := 74) (is := 218) (ic := 78) (i := 41) (by rw [← (qso3 hf).1]; rfl) (by rw [← (qso3 hf).1]; decide) (qso3 hf).2.2 (by decide +kernel) qk_433 qxi_78 (by decide +kernel) qxw_78 hl.1 dX5_run_26 dX5_run_29 dX5_run_30 dX5_run_32 dX5_run_35 (Nat.le_of_ble_eq_true rfl) (Nat.le_of_ble_eq_true rfl) (Nat.le_of_ble_eq_true rfl) (Nat.le_of_ble_eq_true rfl) (Nat.le_of_ble_eq_true rfl) (Nat.le_of_ble_eq_true rfl)
-- X5.meanGrade
def fX5_meanGrade (w : qMem)   : Option (Nat × UInt64 × qMem) :=
  qbd (fX0_countOf w 0 1) fun (r2 : Int32) =>
  if r2 = 0 then
    some (6, 0, w)
  else
    qbd (fX0_sumOfGrades w 0) fun (r5 : Int32) =>
    if qn64 (FP.ddiv (FP.i2d r5) (FP.i2d r2)) = true then
    some (0, FP.ddiv (FP.i2d r5) (FP.i2d r2), w)
    else none
theorem qhd_X5_meanGrade : yX5_meanGrade.cls ≠ "java/lang/invoke/MethodHandle" ∧ yX5_meanGrade.cls ≠ "java/lang/invoke/VarHandle" ∧ (parseMethodDescriptor yX5_meanGrade.desc).map (fun d => d.parameters.length) = some 0 := ⟨by decide +kernel, by decide +kernel, by decide +kernel⟩
set_option maxHeartbeats 4000000 in
set_option maxRecDepth 100000 in
theorem mX5_meanGrade {l : Launch} {D : va_G} {G : Nat → ClassId} {ad : Nat → Nat} (hJ : qInj ad) (hst : l.stackTraces = false) {w : qMem}    {cF : Nat} {rF : UInt64} {wF : qMem} (hf : fX5_meanGrade w = some (cF, rF, wF)) : qCX l D G ad yX5_meanGrade cX5_meanGrade 2 (some .double) 6 1 6 [.ref (ad 228)] w (fun st => qxQD D G ad st cF rF wF) cF wF := by
  refine qx_start RX5 rfl (by decide +kernel) hJ (fun a b h => by simp only [qxQI, qxQV, qxQR, qxQD, qxQF, h]) (Nat.le_of_ble_eq_true rfl) ?_
  intro p e s m args below meth c0 ls hC hr ht hR hl
  have hx := hC.1
  have hb := hC.2.1
  have hl : lv_has ls 2 [(0, .ref (ad 228))] := hl
  unfold fX5_meanGrade at hf
  refine lv_aload_n hx hb dX5_meanGrade_0 rfl (lv_at hl 0 rfl) ?_
  refine qget_X5_0 hC hR qk_226 dX5_meanGrade_1 ?_
  refine lv_iconst (v := 1) hx hb dX5_meanGrade_4 (by decide) ?_
  obtain ⟨r2, hq1, hf⟩ := qbd_s hf
  refine q_callVi hC hR (mX0_countOf (qJ hC) (show 0 < 12 by decide) hq1) (by have := (show 0 < 12 by decide); omega) (qsh_hall G ad _ (show 0 < 12 by decide)) rfl qk_539 qk_417 qk_418 qk_20 qk_419 qhd_X0_countOf ⟨Nat.le_of_ble_eq_true rfl, Nat.le_of_ble_eq_true rfl⟩ hl.1 rfl (Nat.le_of_ble_eq_true rfl) dX5_meanGrade_5 ⟨Nat.le_of_ble_eq_true rfl, Nat.le_of_ble_eq_true rfl⟩ (fun H locs hR => ?_)
  refine lv_istore_n (lv' := [(1, .int r2), (0, .ref (ad 228))]) hx hb dX5_meanGrade_8 rfl hl (by decide) rfl (fun ls hl => ?_)
  refine lv_iload_n hx hb dX5_meanGrade_9 rfl (lv_at hl 0 rfl) ?_
  refine lv_if_ne (tgt := 24) hx hb dX5_meanGrade_10 (by decide) (fun c_3 => ?_) (fun c_3 => ?_)
  · have hf := qif_f hf c_3
    refine lv_aload_n hx hb dX5_meanGrade_24 rfl (lv_at hl 1 rfl) ?_
    refine qget_X5_0 hC hR qk_226 dX5_meanGrade_25 ?_
    obtain ⟨r5, hq4, hf⟩ := qbd_s hf
    refine q_callVi hC hR (mX0_sumOfGrades (qJ hC) (show 0 < 12 by decide) hq4) (by have := (show 0 < 12 by decide); omega) (qsh_hall G ad _ (show 0 < 12 by decide)) rfl qk_858 qk_859 qk_860 qk_20 qk_861 qhd_X0_sumOfGrades ⟨Nat.le_of_ble_eq_true rfl, Nat.le_of_ble_eq_true rfl⟩ hl.1 rfl (Nat.le_of_ble_eq_true rfl) dX5_meanGrade_28 ⟨Nat.le_of_ble_eq_true rfl, Nat.le_of_ble_eq_true rfl⟩ (fun H locs hR => ?_)
    refine lv_i2d hx hb dX5_meanGrade_31 ?_
    refine lv_iload_n hx hb dX5_meanGrade_32 rfl (lv_at hl 0 rfl) ?_
    refine lv_i2d hx hb dX5_meanGrade_33 ?_
    obtain ⟨g6, hf⟩ := qgd hf
    refine lv_ddiv hx hb dX5_meanGrade_34 (qn64_ok g6) ?_
    exact qx_dret hC hR hr (qso3 hf).1.symm (qso3 hf).2.1 (qso3 hf).2.2 dX5_meanGrade_35 (Nat.le_of_ble_eq_true rfl) (Nat.le_of_ble_eq_true rfl)
  · have hf := qif_t hf c_3
    exact q_throwW hC hR hst ht (code := cF) (E := "java/lang/ArithmeticException") (text := "there are no cups") (ik := 283) (is := 285) (ic := 287) (i := 35) (by rw [← (qso3 hf).1]; rfl) (by rw [← (qso3 hf).1]; decide) (qso3 hf).2.2 (by decide +kernel) qk_842 qxi_287 (by decide +kernel) qxw_287 hl.1 dX5_meanGrade_13 dX5_meanGrade_16 dX5_meanGrade_17 dX5_meanGrade_20 dX5_meanGrade_23 (Nat.le_of_ble_eq_true rfl) (Nat.le_of_ble_eq_true rfl) (Nat.le_of_ble_eq_true rfl) (Nat.le_of_ble_eq_true rfl) (Nat.le_of_ble_eq_true rfl) (Nat.le_of_ble_eq_true rfl)
-- X5.brokenShare
def fX5_brokenShare (w : qMem)   : Option (Nat × UInt32 × qMem) :=
  if w 0 2 = 0 then
    some (6, 0, w)
  else
    qbd (fX0_countBroken w 0) fun (r3 : Int32) =>
    if qn32 (FP.fdiv (FP.i2f r3) (FP.i2f (w 0 2))) = true then
    some (0, FP.fdiv (FP.i2f r3) (FP.i2f (w 0 2)), w)
    else none
theorem qhd_X5_brokenShare : yX5_brokenShare.cls ≠ "java/lang/invoke/MethodHandle" ∧ yX5_brokenShare.cls ≠ "java/lang/invoke/VarHandle" ∧ (parseMethodDescriptor yX5_brokenShare.desc).map (fun d => d.parameters.length) = some 0 := ⟨by decide +kernel, by decide +kernel, by decide +kernel⟩
set_option maxHeartbeats 4000000 in
set_option maxRecDepth 100000 in
theorem mX5_brokenShare {l : Launch} {D : va_G} {G : Nat → ClassId} {ad : Nat → Nat} (hJ : qInj ad) (hst : l.stackTraces = false) {w : qMem}    {cF : Nat} {rF : UInt32} {wF : qMem} (hf : fX5_brokenShare w = some (cF, rF, wF)) : qCX l D G ad yX5_brokenShare cX5_brokenShare 1 (some .float) 6 1 6 [.ref (ad 228)] w (fun st => qxQF D G ad st cF rF wF) cF wF := by
  refine qx_start RX5 rfl (by decide +kernel) hJ (fun a b h => by simp only [qxQI, qxQV, qxQR, qxQD, qxQF, h]) (Nat.le_of_ble_eq_true rfl) ?_
  intro p e s m args below meth c0 ls hC hr ht hR hl
  have hx := hC.1
  have hb := hC.2.1
  have hl : lv_has ls 1 [(0, .ref (ad 228))] := hl
  unfold fX5_brokenShare at hf
  refine lv_aload_n hx hb dX5_brokenShare_0 rfl (lv_at hl 0 rfl) ?_
  refine qget_X5_0 hC hR qk_226 dX5_brokenShare_1 ?_
  refine qget_X0_2 hC hR (show 0 < 12 by decide) qk_114 dX5_brokenShare_4 ?_
  refine lv_if_ne (tgt := 21) hx hb dX5_brokenShare_7 (by decide) (fun c_1 => ?_) (fun c_1 => ?_)
  · have hf := qif_f hf c_1
    refine lv_aload_n hx hb dX5_brokenShare_21 rfl (lv_at hl 0 rfl) ?_
    refine qget_X5_0 hC hR qk_226 dX5_brokenShare_22 ?_
    obtain ⟨r3, hq2, hf⟩ := qbd_s hf
    refine q_callVi hC hR (mX0_countBroken (qJ hC) (show 0 < 12 by decide) hq2) (by have := (show 0 < 12 by decide); omega) (qsh_hall G ad _ (show 0 < 12 by decide)) rfl qk_540 qk_541 qk_542 qk_20 qk_543 qhd_X0_countBroken ⟨Nat.le_of_ble_eq_true rfl, Nat.le_of_ble_eq_true rfl⟩ hl.1 rfl (Nat.le_of_ble_eq_true rfl) dX5_brokenShare_25 ⟨Nat.le_of_ble_eq_true rfl, Nat.le_of_ble_eq_true rfl⟩ (fun H locs hR => ?_)
    refine lv_i2f hx hb dX5_brokenShare_28 ?_
    refine lv_aload_n hx hb dX5_brokenShare_29 rfl (lv_at hl 0 rfl) ?_
    refine qget_X5_0 hC hR qk_226 dX5_brokenShare_30 ?_
    refine qget_X0_2 hC hR (show 0 < 12 by decide) qk_114 dX5_brokenShare_33 ?_
    refine lv_i2f hx hb dX5_brokenShare_36 ?_
    obtain ⟨g4, hf⟩ := qgd hf
    refine lv_fdiv hx hb dX5_brokenShare_37 (qn32_ok g4) ?_
    exact qx_fret hC hR hr (qso3 hf).1.symm (qso3 hf).2.1 (qso3 hf).2.2 dX5_brokenShare_38 (Nat.le_of_ble_eq_true rfl) (Nat.le_of_ble_eq_true rfl)
  · have hf := qif_t hf c_1
    exact q_throwW hC hR hst ht (code := cF) (E := "java/lang/ArithmeticException") (text := "there are no props") (ik := 283) (is := 291) (ic := 287) (i := 36) (by rw [← (qso3 hf).1]; rfl) (by rw [← (qso3 hf).1]; decide) (qso3 hf).2.2 (by decide +kernel) qk_842 qxi_287 (by decide +kernel) qxw_287 hl.1 dX5_brokenShare_10 dX5_brokenShare_13 dX5_brokenShare_14 dX5_brokenShare_17 dX5_brokenShare_20 (Nat.le_of_ble_eq_true rfl) (Nat.le_of_ble_eq_true rfl) (Nat.le_of_ble_eq_true rfl) (Nat.le_of_ble_eq_true rfl) (Nat.le_of_ble_eq_true rfl) (Nat.le_of_ble_eq_true rfl)
