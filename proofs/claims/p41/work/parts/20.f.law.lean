def fL_undone_L374 (L : Nat) (xs : Nat → Int32)  : Nat → qMem → (Nat → Int64) → Int32 → Option (Int32 × qMem)
  | 0, _, _, _ => none
  | k + 1, w, f2, x4 =>
    if x4 < 0 then
      some (1, w)
    else
      qbd2 (fL_undo w) fun (r_5 : Int32) (w_6 : qMem) =>
      if r_5 < 0 then
        none
      else
        qbd2 (fL_sum w_6) fun (r_10 : Int64) (w_11 : qMem) =>
        if qin x4 9 = true then
        if lg_cmp r_10 (f2 (x4).toNatClampNeg) = 0 then
          qnm (x4 + (-1)) fun (x_14 : Int32) =>
          fL_undone_L374 L xs k w_11 f2 x_14
        else
          none
        else none
set_option maxHeartbeats 4000000 in
set_option maxRecDepth 100000 in
theorem mL_undone_L374 {p : Program} {l : Launch} {e : Env} {s : State} {m : MethodId} {args : Array Value} {below : List Frame} {meth : Method} {c : Code} {D : va_G} {G : Nat → ClassId} {ad : Nat → Nat} {b0 : Nat} {o1 : Nat} {o2 : Nat} {L : Nat} {xs : Nat → Int32} {w0 : qMem} {rF : Int32} {wF : qMem} (hst : l.stackTraces = false) (hC : lCx p c cL_undone 10 s m args meth RL D G ad (lX (qcells G ad w0) [] [])) (hr : meth.sig.returnType = some .boolean) (hE : (lSD b0 L xs o1 o2) (lA ad (lX (qcells G ad w0) [] []) s.heap.size) s s.heap) : ∀ (k : Nat), ∀ (w : qMem) (f2 : Nat → Int64) (x4 : Int32) (q2 : Nat) (cc cs : Nat) (H : Heap) (locs : List Loc) (ls : Array Slot), fL_undone_L374 L xs k w f2 x4 = some (rF, wF) → lR D (lX (qcells G ad w0) [] []) (lX (qcells G ad w) [(q2, .inl (G 6, 9, .inr (.inl f2)))] []) s H locs → lv_has ls 10 [(1, .ref (ad 228)), (2, .ref q2), (4, .int x4)] → cc + 293 * k ≤ 7473 → cs + 1758 * k ≤ 53737 → W p l e (qrm 12 7473 53737) s m args below meth c H locs cc cs (MQ below (lQi D (lX (qcells G ad w0) [] []) (lX (qcells G ad wF) [] []) s rF) args s 7473 53737 (va_A (lX (qcells G ad w0) [] []) s.heap.size)) (F0 m 374 ls []) := by
  have hx := hC.1
  have hb := hC.2.1
  have hJ := hC.2.2.2.2.2.2.2.1
  intro k
  induction k with
  | zero => intro w f2 x4 q2 cc cs H locs ls hf; exact nomatch (show (none : Option (Int32 × qMem)) = some _ from hf)
  | succ k ih =>
    intro w f2 x4 q2 cc cs H locs ls hf hR hl hcM hsM
    rw [fL_undone_L374] at hf
    refine lv_iload hx hb dL_undone_374 (lv_at hl 2 rfl) ?_
    refine lv_if_lt (tgt := 406) hx hb dL_undone_376 (by decide) (fun c__4 => ?_) (fun c__4 => ?_)
    · have hf := qif_t hf c__4
      refine lv_iconst (v := 1) hx hb dL_undone_406 (by decide) ?_
      have hR := lR_pick hR [] (ex1 := []) (g1 := []) (by decide) rfl (Or.inl rfl)
      obtain ⟨e1, e2⟩ := qso2 hf
      exact l_iret hC hR hr (by decide) e1 (by rw [e2]) dL_undone_407 (by omega) (by omega)
    · have hf := qif_f hf c__4
      refine lv_aload_n hx hb dL_undone_379 rfl (lv_at hl 0 rfl) ?_
      obtain ⟨r_5, w_6, hq_7, hf⟩ := qbd2_s hf
      refine l_callSWi hC hR (l_ofHW hJ (mL_undo hJ hst hq_7)) lNo_k trivial lp_C lp_C.symm qkl_1332 qkl_1333 qkl_18 qkl_1334 qhd_L_undo ⟨Nat.le_of_ble_eq_true rfl, Nat.le_of_ble_eq_true rfl⟩ hl.1 rfl (Nat.le_of_ble_eq_true rfl) dL_undone_380 ⟨by show _ ≤ 7473; omega, by show _ ≤ 53737; omega⟩ (fun H locs hR hk => ?_)
      refine lv_if_lt (tgt := 398) hx hb dL_undone_383 (by decide) (fun c__8 => ?_) (fun c__8 => ?_)
      · have hf := qif_t hf c__8
        exact nomatch hf
      · have hf := qif_f hf c__8
        refine lv_aload_n hx hb dL_undone_386 rfl (lv_at hl 0 rfl) ?_
        obtain ⟨r_10, w_11, hq_9, hf⟩ := qbd2_s hf
        refine l_callSl hC hR (mL_sum hJ hst hq_9) lNo_k trivial lp_CR lp_CR.symm qkl_1197 qkl_1198 qkl_18 qkl_1199 qhd_L_sum ⟨Nat.le_of_ble_eq_true rfl, Nat.le_of_ble_eq_true rfl⟩ hl.1 rfl (Nat.le_of_ble_eq_true rfl) dL_undone_387 ⟨by show _ ≤ 7473; omega, by show _ ≤ 53737; omega⟩ (fun H locs hR hk => ?_)
        refine lv_aload_n hx hb dL_undone_390 rfl (lv_at hl 1 rfl) ?_
        refine lv_iload hx hb dL_undone_391 (lv_at hl 2 rfl) ?_
        obtain ⟨g_12, hf⟩ := qgd hf
        refine l_jld hC hR (lX_mx 0 rfl) (j := (x4).toNatClampNeg) g_12 rfl dL_undone_393 ?_
        refine W.lcmp hx hb dL_undone_394 ?_
        refine lv_if_eq (tgt := 400) hx hb dL_undone_395 (by decide) (fun c__13 => ?_) (fun c__13 => ?_)
        · have hf := qif_t hf c__13
          obtain ⟨x_14, ex_14⟩ : ∃ y : Int32, y = x4 + (-1) := ⟨_, rfl⟩
          have hf := qnm_t hf ex_14
          refine lv_iinc (v := x_14) (lv' := [(4, .int x_14), (1, .ref (ad 228)), (2, .ref q2)]) hx hb dL_undone_400 hl (k := 2) rfl (by rw [ex_14]; rfl) (by decide) rfl (fun ls hl => ?_)
          refine lv_goto (tgt := 374) hx hb dL_undone_403 (by decide) ?_
          exact ih _ _ _ _ _ _ _ _ _ hf hR (lv_sub hl [1, 2, 0] rfl) (by omega) (by omega)
        · have hf := qif_f hf c__13
          exact nomatch hf
def fL_undone_L350 (L : Nat) (xs : Nat → Int32) (k10 : (qMem → (Nat → Int64) → Int32 → Int32 → Option (Int32 × qMem))) (w : qMem) (f2 : Nat → Int64) (x3 : Int32) (x4 : Int32) (x9 : Int32) : Option (Int32 × qMem) :=
  if 0 ≤ x9 then
    qnm (x3 + 1) fun (x_33 : Int32) =>
    qnm (x4 + 1) fun (x_34 : Int32) =>
    k10 w f2 x_33 x_34
  else
    qnm (x3 + 0) fun (x_35 : Int32) =>
    qnm (x4 + 1) fun (x_36 : Int32) =>
    k10 w f2 x_35 x_36
set_option maxHeartbeats 4000000 in
set_option maxRecDepth 100000 in
theorem mL_undone_L350 {p : Program} {l : Launch} {e : Env} {s : State} {m : MethodId} {args : Array Value} {below : List Frame} {meth : Method} {c : Code} {D : va_G} {G : Nat → ClassId} {ad : Nat → Nat} {b0 : Nat} {o1 : Nat} {o2 : Nat} {L : Nat} {xs : Nat → Int32} {w0 : qMem} {rF : Int32} {wF : qMem} {k10 : (qMem → (Nat → Int64) → Int32 → Int32 → Option (Int32 × qMem))} {B S : Nat} (hBM : B ≤ 7473) (hSM : S ≤ 53737) (hst : l.stackTraces = false) (hC : lCx p c cL_undone 10 s m args meth RL D G ad (lX (qcells G ad w0) [] [])) (hr : meth.sig.returnType = some .boolean) (hE : (lSD b0 L xs o1 o2) (lA ad (lX (qcells G ad w0) [] []) s.heap.size) s s.heap) (hk10 : ∀ (w : qMem) (f2 : Nat → Int64) (x3 : Int32) (x4 : Int32) (q2 : Nat) (cc cs : Nat) (H : Heap) (locs : List Loc) (ls : Array Slot), k10 w f2 x3 x4 = some (rF, wF) → lR D (lX (qcells G ad w0) [] []) (lX (qcells G ad w) [(q2, .inl (G 6, 9, .inr (.inl f2)))] []) s H locs → lv_has ls 10 [(0, .ref b0), (1, .ref (ad 228)), (2, .ref q2), (3, .int x3), (4, .int x4)] → cc ≤ B → cs ≤ S → W p l e (qrm 12 7473 53737) s m args below meth c H locs cc cs (MQ below (lQi D (lX (qcells G ad w0) [] []) (lX (qcells G ad wF) [] []) s rF) args s 7473 53737 (va_A (lX (qcells G ad w0) [] []) s.heap.size)) (F0 m 10 ls [])) : ∀ (w : qMem) (f2 : Nat → Int64) (x3 : Int32) (x4 : Int32) (x9 : Int32) (q2 : Nat) (cc cs : Nat) (H : Heap) (locs : List Loc) (ls : Array Slot), fL_undone_L350 L xs k10 w f2 x3 x4 x9 = some (rF, wF) → lR D (lX (qcells G ad w0) [] []) (lX (qcells G ad w) [(q2, .inl (G 6, 9, .inr (.inl f2)))] []) s H locs → lv_has ls 10 [(0, .ref b0), (1, .ref (ad 228)), (2, .ref q2), (3, .int x3), (4, .int x4), (9, .int x9)] → cc ≤ B → cs ≤ S → cc ≤ 7473 → cs ≤ 53737 → W p l e (qrm 12 7473 53737) s m args below meth c H locs cc cs (MQ below (lQi D (lX (qcells G ad w0) [] []) (lX (qcells G ad wF) [] []) s rF) args s 7473 53737 (va_A (lX (qcells G ad w0) [] []) s.heap.size)) (F0 m 350 ls []) := by
  have hx := hC.1
  have hb := hC.2.1
  have hJ := hC.2.2.2.2.2.2.2.1
  intro w f2 x3 x4 x9 q2 cc cs H locs ls hf hR hl hcB hsB hcM hsM
  unfold fL_undone_L350 at hf
  refine lv_iload_n hx hb dL_undone_350 rfl (lv_at hl 3 rfl) ?_
  refine lv_iload hx hb dL_undone_351 (lv_at hl 5 rfl) ?_
  refine lv_if_ge (tgt := 360) hx hb dL_undone_353 (by decide) (fun c__32 => ?_) (fun c__32 => ?_)
  · have hf := qif_t hf c__32
    refine lv_iconst (v := 1) hx hb dL_undone_360 (by decide) ?_
    refine lv_iadd hx hb dL_undone_361 ?_
    refine lv_topi (fun x_33 ex_33 => ?_)
    have hf := qnm_t hf ex_33
    refine lv_istore_n (lv' := [(3, .int x_33), (0, .ref b0), (1, .ref (ad 228)), (2, .ref q2), (4, .int x4), (9, .int x9)]) hx hb dL_undone_362 rfl hl (by decide) rfl (fun ls hl => ?_)
    obtain ⟨x_34, ex_34⟩ : ∃ y : Int32, y = x4 + 1 := ⟨_, rfl⟩
    have hf := qnm_t hf ex_34
    refine lv_iinc (v := x_34) (lv' := [(4, .int x_34), (3, .int x_33), (0, .ref b0), (1, .ref (ad 228)), (2, .ref q2), (9, .int x9)]) hx hb dL_undone_363 hl (k := 4) rfl (by rw [ex_34]; rfl) (by decide) rfl (fun ls hl => ?_)
    refine lv_goto (tgt := 10) hx hb dL_undone_366 (by decide) ?_
    exact hk10 _ _ _ _ _ _ _ _ _ _ hf hR (lv_sub hl [2, 3, 4, 1, 0] rfl) (by omega) (by omega)
  · have hf := qif_f hf c__32
    refine lv_iconst (v := 0) hx hb dL_undone_356 (by decide) ?_
    refine lv_goto (tgt := 361) hx hb dL_undone_357 (by decide) ?_
    refine lv_iadd hx hb dL_undone_361 ?_
    refine lv_topi (fun x_35 ex_35 => ?_)
    have hf := qnm_t hf ex_35
    refine lv_istore_n (lv' := [(3, .int x_35), (0, .ref b0), (1, .ref (ad 228)), (2, .ref q2), (4, .int x4), (9, .int x9)]) hx hb dL_undone_362 rfl hl (by decide) rfl (fun ls hl => ?_)
    obtain ⟨x_36, ex_36⟩ : ∃ y : Int32, y = x4 + 1 := ⟨_, rfl⟩
    have hf := qnm_t hf ex_36
    refine lv_iinc (v := x_36) (lv' := [(4, .int x_36), (3, .int x_35), (0, .ref b0), (1, .ref (ad 228)), (2, .ref q2), (9, .int x9)]) hx hb dL_undone_363 hl (k := 4) rfl (by rw [ex_36]; rfl) (by decide) rfl (fun ls hl => ?_)
    refine lv_goto (tgt := 10) hx hb dL_undone_366 (by decide) ?_
    exact hk10 _ _ _ _ _ _ _ _ _ _ hf hR (lv_sub hl [2, 3, 4, 1, 0] rfl) (by omega) (by omega)
def fL_undone_L332 (L : Nat) (xs : Nat → Int32) (k10 : (qMem → (Nat → Int64) → Int32 → Int32 → Option (Int32 × qMem))) (w : qMem) (f2 : Nat → Int64) (x3 : Int32) (x4 : Int32) (x9 : Int32) : Option (Int32 × qMem) :=
  if 0 ≤ x9 then
    fL_undone_L350 L xs k10 w f2 x3 x4 x9
  else
    qbd2 (fL_sum w) fun (r_38 : Int64) (w_39 : qMem) =>
    if qin x3 9 = true then
    if lg_cmp r_38 (f2 (x3).toNatClampNeg) = 0 then
      fL_undone_L350 L xs k10 w_39 f2 x3 x4 x9
    else
      none
    else none
set_option maxHeartbeats 4000000 in
set_option maxRecDepth 100000 in
theorem mL_undone_L332 {p : Program} {l : Launch} {e : Env} {s : State} {m : MethodId} {args : Array Value} {below : List Frame} {meth : Method} {c : Code} {D : va_G} {G : Nat → ClassId} {ad : Nat → Nat} {b0 : Nat} {o1 : Nat} {o2 : Nat} {L : Nat} {xs : Nat → Int32} {w0 : qMem} {rF : Int32} {wF : qMem} {k10 : (qMem → (Nat → Int64) → Int32 → Int32 → Option (Int32 × qMem))} {B S : Nat} (hBM : B ≤ 7473) (hSM : S ≤ 53737) (hst : l.stackTraces = false) (hC : lCx p c cL_undone 10 s m args meth RL D G ad (lX (qcells G ad w0) [] [])) (hr : meth.sig.returnType = some .boolean) (hE : (lSD b0 L xs o1 o2) (lA ad (lX (qcells G ad w0) [] []) s.heap.size) s s.heap) (hk10 : ∀ (w : qMem) (f2 : Nat → Int64) (x3 : Int32) (x4 : Int32) (q2 : Nat) (cc cs : Nat) (H : Heap) (locs : List Loc) (ls : Array Slot), k10 w f2 x3 x4 = some (rF, wF) → lR D (lX (qcells G ad w0) [] []) (lX (qcells G ad w) [(q2, .inl (G 6, 9, .inr (.inl f2)))] []) s H locs → lv_has ls 10 [(0, .ref b0), (1, .ref (ad 228)), (2, .ref q2), (3, .int x3), (4, .int x4)] → cc ≤ B → cs ≤ S → W p l e (qrm 12 7473 53737) s m args below meth c H locs cc cs (MQ below (lQi D (lX (qcells G ad w0) [] []) (lX (qcells G ad wF) [] []) s rF) args s 7473 53737 (va_A (lX (qcells G ad w0) [] []) s.heap.size)) (F0 m 10 ls [])) : ∀ (w : qMem) (f2 : Nat → Int64) (x3 : Int32) (x4 : Int32) (x9 : Int32) (q2 : Nat) (cc cs : Nat) (H : Heap) (locs : List Loc) (ls : Array Slot), fL_undone_L332 L xs k10 w f2 x3 x4 x9 = some (rF, wF) → lR D (lX (qcells G ad w0) [] []) (lX (qcells G ad w) [(q2, .inl (G 6, 9, .inr (.inl f2)))] []) s H locs → lv_has ls 10 [(0, .ref b0), (1, .ref (ad 228)), (2, .ref q2), (3, .int x3), (4, .int x4), (9, .int x9)] → cc + 292 ≤ B → cs + 1752 ≤ S → cc ≤ 7473 → cs ≤ 53737 → W p l e (qrm 12 7473 53737) s m args below meth c H locs cc cs (MQ below (lQi D (lX (qcells G ad w0) [] []) (lX (qcells G ad wF) [] []) s rF) args s 7473 53737 (va_A (lX (qcells G ad w0) [] []) s.heap.size)) (F0 m 332 ls []) := by
  have hx := hC.1
  have hb := hC.2.1
  have hJ := hC.2.2.2.2.2.2.2.1
  intro w f2 x3 x4 x9 q2 cc cs H locs ls hf hR hl hcB hsB hcM hsM
  unfold fL_undone_L332 at hf
  refine lv_iload hx hb dL_undone_332 (lv_at hl 5 rfl) ?_
  refine lv_if_ge (tgt := 350) hx hb dL_undone_334 (by decide) (fun c__31 => ?_) (fun c__31 => ?_)
  · have hf := qif_t hf c__31
    exact mL_undone_L350 (B := B) (S := S) hBM hSM hst hC hr hE hk10 _ _ _ _ _ _ _ _ _ _ _ hf hR (lv_sub hl [0, 1, 2, 3, 4, 5] rfl) (by omega) (by omega) (by omega) (by omega)
  · have hf := qif_f hf c__31
    refine lv_aload_n hx hb dL_undone_337 rfl (lv_at hl 1 rfl) ?_
    obtain ⟨r_38, w_39, hq_37, hf⟩ := qbd2_s hf
    refine l_callSl hC hR (mL_sum hJ hst hq_37) lNo_k trivial lp_CR lp_CR.symm qkl_1197 qkl_1198 qkl_18 qkl_1199 qhd_L_sum ⟨Nat.le_of_ble_eq_true rfl, Nat.le_of_ble_eq_true rfl⟩ hl.1 rfl (Nat.le_of_ble_eq_true rfl) dL_undone_338 ⟨by show _ ≤ 7473; omega, by show _ ≤ 53737; omega⟩ (fun H locs hR hk => ?_)
    refine lv_aload_n hx hb dL_undone_341 rfl (lv_at hl 2 rfl) ?_
    refine lv_iload_n hx hb dL_undone_342 rfl (lv_at hl 3 rfl) ?_
    obtain ⟨g_40, hf⟩ := qgd hf
    refine l_jld hC hR (lX_mx 0 rfl) (j := (x3).toNatClampNeg) g_40 rfl dL_undone_343 ?_
    refine W.lcmp hx hb dL_undone_344 ?_
    refine lv_if_eq (tgt := 350) hx hb dL_undone_345 (by decide) (fun c__41 => ?_) (fun c__41 => ?_)
    · have hf := qif_t hf c__41
      exact mL_undone_L350 (B := B) (S := S) hBM hSM hst hC hr hE hk10 _ _ _ _ _ _ _ _ _ _ _ hf hR (lv_sub hl [0, 1, 2, 3, 4, 5] rfl) (by omega) (by omega) (by omega) (by omega)
    · have hf := qif_f hf c__41
      exact nomatch hf
def fL_undone_L307 (L : Nat) (xs : Nat → Int32) (k10 : (qMem → (Nat → Int64) → Int32 → Int32 → Option (Int32 × qMem))) (w : qMem) (t239 : List Int32) (f2 : Nat → Int64) (x3 : Int32) (x4 : Int32) (x6 : Int32) (t_s0 : List Int32) : Option (Int32 × qMem) :=
  if t239.length + t_s0.length ≤ 60 then
  qnm (t239 ++ t_s0) fun (t_122 : List Int32) =>
  if t_122.length + (qtx.getD 19 []).length ≤ 60 then
  qnm (t_122 ++ (qtx.getD 19 [])) fun (t_128 : List Int32) =>
  if qin (x6 - x6 / 10 * 10) 100 = true then
  if t_128.length + 2 ≤ 60 then
  qnm ((x6 - x6 / 10 * 10).toNatClampNeg) fun (k_131 : Nat) =>
  qnm (t_128 ++ ldig k_131) fun (t_135 : List Int32) =>
  qbd2 (fL_run w t_135) fun (r_139 : Int32) (w_140 : qMem) =>
  fL_undone_L332 L xs k10 w_140 f2 x3 x4 r_139
  else none
  else none
  else none
  else none
set_option maxHeartbeats 4000000 in
set_option maxRecDepth 100000 in
theorem mL_undone_L307 {p : Program} {l : Launch} {e : Env} {s : State} {m : MethodId} {args : Array Value} {below : List Frame} {meth : Method} {c : Code} {D : va_G} {G : Nat → ClassId} {ad : Nat → Nat} {b0 : Nat} {o1 : Nat} {o2 : Nat} {L : Nat} {xs : Nat → Int32} {w0 : qMem} {rF : Int32} {wF : qMem} {k10 : (qMem → (Nat → Int64) → Int32 → Int32 → Option (Int32 × qMem))} {B S : Nat} (hBM : B ≤ 7473) (hSM : S ≤ 53737) (hst : l.stackTraces = false) (hC : lCx p c cL_undone 10 s m args meth RL D G ad (lX (qcells G ad w0) [] [])) (hr : meth.sig.returnType = some .boolean) (hE : (lSD b0 L xs o1 o2) (lA ad (lX (qcells G ad w0) [] []) s.heap.size) s s.heap) (hk10 : ∀ (w : qMem) (f2 : Nat → Int64) (x3 : Int32) (x4 : Int32) (q2 : Nat) (cc cs : Nat) (H : Heap) (locs : List Loc) (ls : Array Slot), k10 w f2 x3 x4 = some (rF, wF) → lR D (lX (qcells G ad w0) [] []) (lX (qcells G ad w) [(q2, .inl (G 6, 9, .inr (.inl f2)))] []) s H locs → lv_has ls 10 [(0, .ref b0), (1, .ref (ad 228)), (2, .ref q2), (3, .int x3), (4, .int x4)] → cc ≤ B → cs ≤ S → W p l e (qrm 12 7473 53737) s m args below meth c H locs cc cs (MQ below (lQi D (lX (qcells G ad w0) [] []) (lX (qcells G ad wF) [] []) s rF) args s 7473 53737 (va_A (lX (qcells G ad w0) [] []) s.heap.size)) (F0 m 10 ls [])) : ∀ (w : qMem) (t239 : List Int32) (f2 : Nat → Int64) (x3 : Int32) (x4 : Int32) (x6 : Int32) (t_s0 : List Int32) (q239 : Nat) (v239 : Nat) (c239 : Nat) (f239 : Nat → Int32) (q2 : Nat) (q_s0 : Nat) (hB239 : lSB t239 c239 f239) (cc cs : Nat) (H : Heap) (locs : List Loc) (ls : Array Slot), fL_undone_L307 L xs k10 w t239 f2 x3 x4 x6 t_s0 = some (rF, wF) → lR D (lX (qcells G ad w0) [] []) (lX (qcells G ad w) [(q239, .inr (1, [.ref v239, .int 0, .int 0, .int (nI t239.length)])), (v239, .inl (G 5, c239, .inl f239)), (q2, .inl (G 6, 9, .inr (.inl f2)))] []) s H locs → lv_has ls 10 [(0, .ref b0), (1, .ref (ad 228)), (2, .ref q2), (3, .int x3), (4, .int x4), (6, .int x6)] → qSt q_s0 t_s0 (lA ad (lX (qcells G ad w) [(q239, .inr (1, [.ref v239, .int 0, .int 0, .int (nI t239.length)])), (v239, .inl (G 5, c239, .inl f239)), (q2, .inl (G 6, 9, .inr (.inl f2)))] []) H.size) s H → cc + 338 ≤ B → cs + 2452 ≤ S → cc ≤ 7473 → cs ≤ 53737 → W p l e (qrm 12 7473 53737) s m args below meth c H locs cc cs (MQ below (lQi D (lX (qcells G ad w0) [] []) (lX (qcells G ad wF) [] []) s rF) args s 7473 53737 (va_A (lX (qcells G ad w0) [] []) s.heap.size)) (F0 m 307 ls [.ref q_s0, .ref q239, .ref (ad 228)]) := by
  have hx := hC.1
  have hb := hC.2.1
  have hJ := hC.2.2.2.2.2.2.2.1
  intro w t239 f2 x3 x4 x6 t_s0 q239 v239 c239 f239 q2 q_s0 hB239 cc cs H locs ls hf hR hl hS_s0 hcB hsB hcM hsM
  unfold fL_undone_L307 at hf
  obtain ⟨g_117, hf⟩ := qgd hf
  have ha_118 := qSt_asc hS_s0
  refine l_callVr hC hR (mB_aps hJ (b := q239) (v := v239) (cap := c239) (n := t239.length) (f := f239) (q := q_s0) (t := t_s0) g_117 hB239.2.2.1 hB239.2.2.2.1 hB239.2.2.2.2.2) qSt_k hS_s0 lp_B (fun _ _ => lp_B1) (l_recv hC hR (lX_mx 0 rfl) (ci := 1) rfl) qkj_1015 qkj_1016 qkj_1017 qkB_init qkj_1018 qhd_B_aps ⟨Nat.le_of_ble_eq_true rfl, Nat.le_of_ble_eq_true rfl⟩ hl.1 rfl (Nat.le_of_ble_eq_true rfl) dL_undone_307 ⟨by show _ ≤ 7473; omega, by show _ ≤ 53737; omega⟩ (fun _ _ => lNo_k) (fun u_119 a_120 H locs hY hR hk _ => ?_)
  obtain ⟨ea, hB_121⟩ := lSB_aps hB239 ha_118 g_117 hY
  rw [ea]
  obtain ⟨t_122, et_122⟩ : ∃ y : List Int32, y = t239 ++ t_s0 := ⟨_, rfl⟩
  have hf := qnm_t hf et_122
  rw [← et_122] at hB_121
  have hR : lR D (lX (qcells G ad w0) [] []) (lX (qcells G ad w) [(q239, .inr (1, [.ref u_119.1, .int 0, .int 0, .int (nI t_122.length)])), (u_119.1, .inl (G 5, u_119.2.1, .inl u_119.2.2)), (q2, .inl (G 6, 9, .inr (.inl f2)))] []) s H locs := by rw [et_122, List.length_append]; exact hR
  refine va_ldcSW (q := ad 1019) hx hb hC.2.2.2.1 (hC.2.2.2.2.2.2.2.2.1.2.1 ("QuakeRehearsalLaw", 309, ";cat 4 ", 19) (by decide +kernel)) dL_undone_310 ?_
  obtain ⟨g_123, hf⟩ := qgd hf
  have ha_124 := qSt_asc (l_now qSt_k hR (lSt_of hC (show 19 < 20 by decide)))
  refine l_callVr hC hR (mB_aps hJ (b := q239) (v := u_119.1) (cap := u_119.2.1) (n := t_122.length) (f := u_119.2.2) (q := (ad 1019)) (t := (qtx.getD 19 [])) g_123 hB_121.2.2.1 hB_121.2.2.2.1 hB_121.2.2.2.2.2) qSt_k (l_now qSt_k hR (lSt_of hC (show 19 < 20 by decide))) lp_B (fun _ _ => lp_B1) (l_recv hC hR (lX_mx 0 rfl) (ci := 1) rfl) qkj_1015 qkj_1016 qkj_1017 qkB_init qkj_1018 qhd_B_aps ⟨Nat.le_of_ble_eq_true rfl, Nat.le_of_ble_eq_true rfl⟩ hl.1 rfl (Nat.le_of_ble_eq_true rfl) dL_undone_313 ⟨by show _ ≤ 7473; omega, by show _ ≤ 53737; omega⟩ (fun _ _ => lNo_k) (fun u_125 a_126 H locs hY hR hk _ => ?_)
  obtain ⟨ea, hB_127⟩ := lSB_aps hB_121 ha_124 g_123 hY
  rw [ea]
  obtain ⟨t_128, et_128⟩ : ∃ y : List Int32, y = t_122 ++ (qtx.getD 19 []) := ⟨_, rfl⟩
  have hf := qnm_t hf et_128
  rw [← et_128] at hB_127
  have hR : lR D (lX (qcells G ad w0) [] []) (lX (qcells G ad w) [(q239, .inr (1, [.ref u_125.1, .int 0, .int 0, .int (nI t_128.length)])), (u_125.1, .inl (G 5, u_125.2.1, .inl u_125.2.2)), (q2, .inl (G 6, 9, .inr (.inl f2)))] []) s H locs := by rw [et_128, List.length_append]; exact hR
  refine lv_iload hx hb dL_undone_316 (lv_at hl 5 rfl) ?_
  refine lv_bipush (v := 10) hx hb dL_undone_318 (by decide) ?_
  refine lv_irem hx hb dL_undone_320 (by decide) ?_
  obtain ⟨g_129, hf⟩ := qgd hf
  obtain ⟨g_130, hf⟩ := qgd hf
  obtain ⟨k_131, ek_131⟩ : ∃ y : Nat, y = (x6 - x6 / 10 * 10).toNatClampNeg := ⟨_, rfl⟩
  have hf := qnm_t hf ek_131
  have hk_131 : k_131 < 100 := by rw [ek_131]; exact lq_lt g_129
  refine l_eqi (x := x6 - x6 / 10 * 10) (y := nI k_131) (by rw [ek_131]; exact lq_nI g_129 (by decide)) ?_
  refine l_callVr hC hR (mB_api hJ (b := q239) (v := u_125.1) (cap := u_125.2.1) (n := t_128.length) (f := u_125.2.2) (x := k_131) (o1 := o1) (o2 := o2) hk_131 g_130 hB_127.2.2.1 hB_127.2.2.2.1 hB_127.2.2.2.2.2) lDg_k (l_now lDg_k hR hE.2) lp_B (fun _ _ => lp_B1) (l_recv hC hR (lX_mx 0 rfl) (ci := 1) rfl) qkj_1061 qkj_1062 qkj_1063 qkB_init qkj_1064 qhd_B_api ⟨Nat.le_of_ble_eq_true rfl, Nat.le_of_ble_eq_true rfl⟩ hl.1 rfl (Nat.le_of_ble_eq_true rfl) dL_undone_321 ⟨by show _ ≤ 7473; omega, by show _ ≤ 53737; omega⟩ (fun _ _ => lNo_k) (fun u_132 a_133 H locs hY hR hk _ => ?_)
  obtain ⟨ea, hB_134⟩ := lSB_api hB_127 hk_131 g_130 hY
  rw [ea]
  obtain ⟨t_135, et_135⟩ : ∃ y : List Int32, y = t_128 ++ ldig k_131 := ⟨_, rfl⟩
  have hf := qnm_t hf et_135
  rw [← et_135] at hB_134
  have hR : lR D (lX (qcells G ad w0) [] []) (lX (qcells G ad w) [(q239, .inr (1, [.ref u_132.1, .int 0, .int 0, .int (nI t_135.length)])), (u_132.1, .inl (G 5, u_132.2.1, .inl u_132.2.2)), (q2, .inl (G 6, 9, .inr (.inl f2)))] []) s H locs := by rw [et_135, List.length_append, ldig_len]; exact hR
  refine l_callVs (tx := t_135) hC hR (mB_toString hJ (b := q239) (v := u_132.1) (cap := u_132.2.1) (n := t_135.length) (f := u_132.2.2) (tx := t_135) hB_134.2.1 hB_134.2.2.1 hB_134.2.2.2.1 hB_134.2.2.2.2.2 hB_134.1 rfl hB_134.2.2.2.2.1) lNo_k trivial lp_B lp_B1 (lad_lt hR) (l_recv hC hR (lX_mx 0 rfl) (ci := 1) rfl) qkj_1087 qkj_1088 qkj_1089 qkB_init qkj_1090 qhd_B_toString ⟨Nat.le_of_ble_eq_true rfl, Nat.le_of_ble_eq_true rfl⟩ hl.1 rfl (Nat.le_of_ble_eq_true rfl) dL_undone_324 ⟨by show _ ≤ 7473; omega, by show _ ≤ 53737; omega⟩ (fun sq_136 H locs hR hk hS_137 => ?_)
  obtain ⟨r_139, w_140, hq_138, hf⟩ := qbd2_s hf
  refine l_callSi hC hR (mL_run hJ hst hq_138) qSt_k hS_137 lp_CR lp_CR.symm qkl_1227 qkl_1228 qkl_18 qkl_1229 qhd_L_run ⟨Nat.le_of_ble_eq_true rfl, Nat.le_of_ble_eq_true rfl⟩ hl.1 rfl (Nat.le_of_ble_eq_true rfl) dL_undone_327 ⟨by show _ ≤ 7473; omega, by show _ ≤ 53737; omega⟩ (fun H locs hR hk => ?_)
  refine lv_istore (lv' := [(9, .int r_139), (0, .ref b0), (1, .ref (ad 228)), (2, .ref q2), (3, .int x3), (4, .int x4), (6, .int x6)]) hx hb dL_undone_330 hl (by decide) rfl (fun ls hl => ?_)
  have hR := lR_pick hR [2] (ex1 := [(q2, .inl (G 6, 9, .inr (.inl f2)))]) (g1 := []) (by decide) rfl (Or.inl rfl)
  exact mL_undone_L332 (B := B) (S := S) hBM hSM hst hC hr hE hk10 _ _ _ _ _ _ _ _ _ _ _ hf hR (lv_sub hl [1, 2, 3, 4, 5, 0] rfl) (by omega) (by omega) (by omega) (by omega)
def fL_undone_L10 (L : Nat) (xs : Nat → Int32)  : Nat → qMem → (Nat → Int64) → Int32 → Int32 → Option (Int32 × qMem)
  | 0, _, _, _, _ => none
  | k + 1, w, f2, x3, x4 =>
    if (7 : Int32) ≤ x4 then
      qnm (x3 - 1) fun (x_3 : Int32) =>
      fL_undone_L374 L xs 8 w f2 x_3
    else
      qbd (fL_cell L xs ((16 : Int32) + x4)) fun (r_16 : Int32) =>
      qnm ((r_16.toUInt32 >>> (Int32.toUInt32 1 &&& Int32.toUInt32 31)).toInt32) fun (x_17 : Int32) =>
      qnm ((x_17.toUInt32 >>> (Int32.toUInt32 4 &&& Int32.toUInt32 31)).toInt32) fun (x_18 : Int32) =>
      qnm (x_18 - x_18 / 6 * 6) fun (x_19 : Int32) =>
      qnm (((x_18.toUInt32 >>> (Int32.toUInt32 3 &&& Int32.toUInt32 31)).toInt32) - ((x_18.toUInt32 >>> (Int32.toUInt32 3 &&& Int32.toUInt32 31)).toInt32) / 11 * 11) fun (x_20 : Int32) =>
      qbd2 (fL_sum w) fun (r_22 : Int64) (w_23 : qMem) =>
      if qin x3 9 = true then
      qnm (vp_updL f2 (x3).toNatClampNeg r_22) fun (f_25 : Nat → Int64) =>
      qnm (x_17 - x_17 / 11 * 11) fun (x_26 : Int32) =>
      if x_26 = 0 then
        qbd2 (fL_cup w_23 x_19 x_20) fun (r_28 : Int32) (w_29 : qMem) =>
        fL_undone_L332 L xs (fL_undone_L10 L xs k) w_29 f_25 x3 x4 r_28
      else
      if x_26 = 1 then
        qbd2 (fL_lamp w_23 x_19 x_20) fun (r_43 : Int32) (w_44 : qMem) =>
        fL_undone_L332 L xs (fL_undone_L10 L xs k) w_44 f_25 x3 x4 r_43
      else
      if x_26 = 2 then
        qbd2 (fL_cat w_23 x_19 x_20) fun (r_47 : Int32) (w_48 : qMem) =>
        fL_undone_L332 L xs (fL_undone_L10 L xs k) w_48 f_25 x3 x4 r_47
      else
      if x_26 = 3 then
        qbd2 (fL_take w_23 x_20) fun (r_51 : Int32) (w_52 : qMem) =>
        fL_undone_L332 L xs (fL_undone_L10 L xs k) w_52 f_25 x3 x4 r_51
      else
      if x_26 = 4 then
        qbd2 (fL_cue w_23 x_20 (((x_18.toUInt32 >>> (Int32.toUInt32 7 &&& Int32.toUInt32 31)).toInt32) - ((x_18.toUInt32 >>> (Int32.toUInt32 7 &&& Int32.toUInt32 31)).toInt32) / 11 * 11)) fun (r_55 : Int32) (w_56 : qMem) =>
        fL_undone_L332 L xs (fL_undone_L10 L xs k) w_56 f_25 x3 x4 r_55
      else
      if x_26 = 5 then
        qbd2 (fL_set w_23 x_20) fun (r_59 : Int32) (w_60 : qMem) =>
        fL_undone_L332 L xs (fL_undone_L10 L xs k) w_60 f_25 x3 x4 r_59
      else
      if x_26 = 6 then
        qbd2 (fX5_shock w_23) fun (r_64 : Int32) (w_65 : qMem) =>
        fL_undone_L332 L xs (fL_undone_L10 L xs k) w_65 f_25 x3 x4 r_64
      else
      if x_26 = 7 then
        qbd2 (fL_add w_23 x_20) fun (r_67 : Int32) (w_68 : qMem) =>
        fL_undone_L332 L xs (fL_undone_L10 L xs k) w_68 f_25 x3 x4 r_67
      else
      if x_26 = 8 then
        qbd2 (fL_perform w_23) fun (r_71 : Int32) (w_72 : qMem) =>
        fL_undone_L332 L xs (fL_undone_L10 L xs k) w_72 f_25 x3 x4 r_71
      else
      if x_26 = 9 then
        qbd2 (fX5_quiet w_23) fun (r_76 : Int32) (w_77 : qMem) =>
        fL_undone_L332 L xs (fL_undone_L10 L xs k) w_77 f_25 x3 x4 r_76
      else
      if ([] : List Int32).length + (qtx.getD 16 []).length ≤ 60 then
      qnm (([] : List Int32) ++ (qtx.getD 16 [])) fun (t_85 : List Int32) =>
      if qin ((1 : Int32) + (x_18 - x_18 / 9 * 9)) 100 = true then
      if t_85.length + 2 ≤ 60 then
      qnm (((1 : Int32) + (x_18 - x_18 / 9 * 9)).toNatClampNeg) fun (k_88 : Nat) =>
      qnm (t_85 ++ ldig k_88) fun (t_92 : List Int32) =>
      if t_92.length + (qtx.getD 17 []).length ≤ 60 then
      qnm (t_92 ++ (qtx.getD 17 [])) fun (t_98 : List Int32) =>
      if (11 : Int32) ≤ x_17 - x_17 / 22 * 22 then
        if ([] : List Int32).length + (qtx.getD 18 []).length ≤ 60 then
        qnm (([] : List Int32) ++ (qtx.getD 18 [])) fun (t_107 : List Int32) =>
        if qin (x_18 - x_18 / 14 * 14) 100 = true then
        if t_107.length + 2 ≤ 60 then
        qnm ((x_18 - x_18 / 14 * 14).toNatClampNeg) fun (k_110 : Nat) =>
        qnm (t_107 ++ ldig k_110) fun (t_114 : List Int32) =>
        fL_undone_L307 L xs (fL_undone_L10 L xs k) w_23 t_98 f_25 x3 x4 x_18 t_114
        else none
        else none
        else none
      else
        fL_undone_L307 L xs (fL_undone_L10 L xs k) w_23 t_98 f_25 x3 x4 x_18 (qtx.getD 11 [])
      else none
      else none
      else none
      else none
      else none
set_option maxHeartbeats 4000000 in
set_option maxRecDepth 100000 in
theorem mL_undone_L10 {p : Program} {l : Launch} {e : Env} {s : State} {m : MethodId} {args : Array Value} {below : List Frame} {meth : Method} {c : Code} {D : va_G} {G : Nat → ClassId} {ad : Nat → Nat} {b0 : Nat} {o1 : Nat} {o2 : Nat} {L : Nat} {xs : Nat → Int32} {w0 : qMem} {rF : Int32} {wF : qMem} (hst : l.stackTraces = false) (hC : lCx p c cL_undone 10 s m args meth RL D G ad (lX (qcells G ad w0) [] [])) (hr : meth.sig.returnType = some .boolean) (hE : (lSD b0 L xs o1 o2) (lA ad (lX (qcells G ad w0) [] []) s.heap.size) s s.heap) : ∀ (k : Nat), ∀ (w : qMem) (f2 : Nat → Int64) (x3 : Int32) (x4 : Int32) (q2 : Nat) (cc cs : Nat) (H : Heap) (locs : List Loc) (ls : Array Slot), fL_undone_L10 L xs k w f2 x3 x4 = some (rF, wF) → lR D (lX (qcells G ad w0) [] []) (lX (qcells G ad w) [(q2, .inl (G 6, 9, .inr (.inl f2)))] []) s H locs → lv_has ls 10 [(0, .ref b0), (1, .ref (ad 228)), (2, .ref q2), (3, .int x3), (4, .int x4)] → cc + 641 * k + 2344 ≤ 7473 → cs + 4958 * k + 14064 ≤ 53737 → W p l e (qrm 12 7473 53737) s m args below meth c H locs cc cs (MQ below (lQi D (lX (qcells G ad w0) [] []) (lX (qcells G ad wF) [] []) s rF) args s 7473 53737 (va_A (lX (qcells G ad w0) [] []) s.heap.size)) (F0 m 10 ls []) := by
  have hx := hC.1
  have hb := hC.2.1
  have hJ := hC.2.2.2.2.2.2.2.1
  intro k
  induction k with
  | zero => intro w f2 x3 x4 q2 cc cs H locs ls hf; exact nomatch (show (none : Option (Int32 × qMem)) = some _ from hf)
  | succ k ih =>
    intro w f2 x3 x4 q2 cc cs H locs ls hf hR hl hcM hsM
    rw [fL_undone_L10] at hf
    refine lv_iload hx hb dL_undone_10 (lv_at hl 4 rfl) ?_
    refine lv_bipush (v := 7) hx hb dL_undone_12 (by decide) ?_
    refine lv_icmp_ge (tgt := 369) hx hb dL_undone_14 (by decide) (fun c__2 => ?_) (fun c__2 => ?_)
    · have hf := qif_t hf c__2
      refine lv_iload_n hx hb dL_undone_369 rfl (lv_at hl 3 rfl) ?_
      refine lv_iconst (v := 1) hx hb dL_undone_370 (by decide) ?_
      refine lv_isub hx hb dL_undone_371 ?_
      refine lv_topi (fun x_3 ex_3 => ?_)
      have hf := qnm_t hf ex_3
      refine lv_istore (lv' := [(4, .int x_3), (0, .ref b0), (1, .ref (ad 228)), (2, .ref q2), (3, .int x3)]) hx hb dL_undone_372 hl (by decide) rfl (fun ls hl => ?_)
      exact mL_undone_L374 hst hC hr hE 8 _ _ _ _ _ _ _ _ _ hf hR (lv_sub hl [2, 3, 0] rfl) (by omega) (by omega)
    · have hf := qif_f hf c__2
      refine lv_aload_n hx hb dL_undone_17 rfl (lv_at hl 0 rfl) ?_
      refine lv_bipush (v := 16) hx hb dL_undone_18 (by decide) ?_
      refine lv_iload hx hb dL_undone_20 (lv_at hl 4 rfl) ?_
      refine lv_iadd hx hb dL_undone_22 ?_
      obtain ⟨r_16, hq_15, hf⟩ := qbd_s hf
      refine l_callSi hC hR (mL_cell hJ hst hq_15) lSc_k (l_now lSc_k hR hE.1) lp_0 lp_0.symm qkl_260 qkl_261 qkl_18 qkl_262 qhd_L_cell ⟨Nat.le_of_ble_eq_true rfl, Nat.le_of_ble_eq_true rfl⟩ hl.1 rfl (Nat.le_of_ble_eq_true rfl) dL_undone_23 ⟨by show _ ≤ 7473; omega, by show _ ≤ 53737; omega⟩ (fun H locs hR hk => ?_)
      refine lv_iconst (v := 1) hx hb dL_undone_26 (by decide) ?_
      refine lv_iushr hx hb dL_undone_27 rfl ?_
      refine lv_topi (fun x_17 ex_17 => ?_)
      have hf := qnm_t hf ex_17
      refine lv_istore (lv' := [(5, .int x_17), (0, .ref b0), (1, .ref (ad 228)), (2, .ref q2), (3, .int x3), (4, .int x4)]) hx hb dL_undone_28 hl (by decide) rfl (fun ls hl => ?_)
      refine lv_iload hx hb dL_undone_30 (lv_at hl 0 rfl) ?_
      refine lv_iconst (v := 4) hx hb dL_undone_32 (by decide) ?_
      refine lv_iushr hx hb dL_undone_33 rfl ?_
      refine lv_topi (fun x_18 ex_18 => ?_)
      have hf := qnm_t hf ex_18
      refine lv_istore (lv' := [(6, .int x_18), (5, .int x_17), (0, .ref b0), (1, .ref (ad 228)), (2, .ref q2), (3, .int x3), (4, .int x4)]) hx hb dL_undone_34 hl (by decide) rfl (fun ls hl => ?_)
      refine lv_iload hx hb dL_undone_36 (lv_at hl 0 rfl) ?_
      refine lv_bipush (v := 6) hx hb dL_undone_38 (by decide) ?_
      refine lv_irem hx hb dL_undone_40 (by decide) ?_
      refine lv_topi (fun x_19 ex_19 => ?_)
      have hf := qnm_t hf ex_19
      refine lv_istore (lv' := [(7, .int x_19), (6, .int x_18), (5, .int x_17), (0, .ref b0), (1, .ref (ad 228)), (2, .ref q2), (3, .int x3), (4, .int x4)]) hx hb dL_undone_41 hl (by decide) rfl (fun ls hl => ?_)
      refine lv_iload hx hb dL_undone_43 (lv_at hl 1 rfl) ?_
      refine lv_iconst (v := 3) hx hb dL_undone_45 (by decide) ?_
      refine lv_iushr hx hb dL_undone_46 rfl ?_
      refine lv_bipush (v := 11) hx hb dL_undone_47 (by decide) ?_
      refine lv_irem hx hb dL_undone_49 (by decide) ?_
      refine lv_topi (fun x_20 ex_20 => ?_)
      have hf := qnm_t hf ex_20
      refine lv_istore (lv' := [(8, .int x_20), (7, .int x_19), (6, .int x_18), (5, .int x_17), (0, .ref b0), (1, .ref (ad 228)), (2, .ref q2), (3, .int x3), (4, .int x4)]) hx hb dL_undone_50 hl (by decide) rfl (fun ls hl => ?_)
      refine lv_aload_n hx hb dL_undone_52 rfl (lv_at hl 6 rfl) ?_
      refine lv_iload_n hx hb dL_undone_53 rfl (lv_at hl 7 rfl) ?_
      refine lv_aload_n hx hb dL_undone_54 rfl (lv_at hl 5 rfl) ?_
      obtain ⟨r_22, w_23, hq_21, hf⟩ := qbd2_s hf
      refine l_callSl hC hR (mL_sum hJ hst hq_21) lNo_k trivial lp_CR lp_CR.symm qkl_1197 qkl_1198 qkl_18 qkl_1199 qhd_L_sum ⟨Nat.le_of_ble_eq_true rfl, Nat.le_of_ble_eq_true rfl⟩ hl.1 rfl (Nat.le_of_ble_eq_true rfl) dL_undone_55 ⟨by show _ ≤ 7473; omega, by show _ ≤ 53737; omega⟩ (fun H locs hR hk => ?_)
      obtain ⟨g_24, hf⟩ := qgd hf
      refine l_jst hC hR 0 rfl (j := (x3).toNatClampNeg) g_24 rfl dL_undone_58 (fun H locs hR => ?_)
      obtain ⟨f_25, ef_25⟩ : ∃ y : Nat → Int64, y = vp_updL f2 (x3).toNatClampNeg r_22 := ⟨_, rfl⟩
      have hf := qnm_t hf ef_25
      have hR : lR D (lX (qcells G ad w0) [] []) (lX (qcells G ad w_23) [(q2, .inl (G 6, 9, .inr (.inl f_25)))] []) s H locs := by rw [ef_25]; exact hR
      refine lv_iload hx hb dL_undone_59 (lv_at hl 3 rfl) ?_
      refine lv_bipush (v := 11) hx hb dL_undone_61 (by decide) ?_
      refine lv_irem hx hb dL_undone_63 (by decide) ?_
      refine lv_topi (fun x_26 ex_26 => ?_)
      have hf := qnm_t hf ex_26
      by_cases c__27 : x_26 = 0
      · have hf := qif_t hf c__27
        refine lv_tableIn (off := 56) (tgt := 120) hx hb dL_undone_64 (by rw [c__27]; decide) (by rw [c__27]; decide) (by rw [c__27]; decide) (by decide) ?_
        refine lv_aload_n hx hb dL_undone_120 rfl (lv_at hl 5 rfl) ?_
        refine lv_iload hx hb dL_undone_121 (lv_at hl 1 rfl) ?_
        refine lv_iload hx hb dL_undone_123 (lv_at hl 0 rfl) ?_
        obtain ⟨r_28, w_29, hq_30, hf⟩ := qbd2_s hf
        refine l_callSWi hC hR (l_ofHW hJ (mL_cup hJ hst hq_30)) lNo_k trivial lp_C lp_C.symm qkl_264 qkl_265 qkl_18 qkl_266 qhd_L_cup ⟨Nat.le_of_ble_eq_true rfl, Nat.le_of_ble_eq_true rfl⟩ hl.1 rfl (Nat.le_of_ble_eq_true rfl) dL_undone_125 ⟨by show _ ≤ 7473; omega, by show _ ≤ 53737; omega⟩ (fun H locs hR hk => ?_)
        refine lv_istore (lv' := [(9, .int r_28), (8, .int x_20), (7, .int x_19), (6, .int x_18), (5, .int x_17), (0, .ref b0), (1, .ref (ad 228)), (2, .ref q2), (3, .int x3), (4, .int x4)]) hx hb dL_undone_128 hl (by decide) rfl (fun ls hl => ?_)
        refine lv_goto (tgt := 332) hx hb dL_undone_130 (by decide) ?_
        exact mL_undone_L332 (B := cc + 641) (S := cs + 4958) (by omega) (by omega) hst hC hr hE (fun y0 y1 y2 y3 y4 cc2 cs2 H2 locs2 ls2 hf2 hR2 hl2 hc2 hs2 => ih y0 y1 y2 y3 y4 cc2 cs2 H2 locs2 ls2 hf2 hR2 hl2 (by omega) (by omega)) _ _ _ _ _ _ _ _ _ _ _ hf hR (lv_sub hl [5, 6, 7, 8, 9, 0] rfl) (by omega) (by omega) (by omega) (by omega)
      have hf := qif_f hf c__27
      by_cases c__42 : x_26 = 1
      · have hf := qif_t hf c__42
        refine lv_tableIn (off := 69) (tgt := 133) hx hb dL_undone_64 (by rw [c__42]; decide) (by rw [c__42]; decide) (by rw [c__42]; decide) (by decide) ?_
        refine lv_aload_n hx hb dL_undone_133 rfl (lv_at hl 5 rfl) ?_
        refine lv_iload hx hb dL_undone_134 (lv_at hl 1 rfl) ?_
        refine lv_iload hx hb dL_undone_136 (lv_at hl 0 rfl) ?_
        obtain ⟨r_43, w_44, hq_45, hf⟩ := qbd2_s hf
        refine l_callSWi hC hR (l_ofHW hJ (mL_lamp hJ hst hq_45)) lNo_k trivial lp_C lp_C.symm qkl_521 qkl_522 qkl_18 qkl_523 qhd_L_lamp ⟨Nat.le_of_ble_eq_true rfl, Nat.le_of_ble_eq_true rfl⟩ hl.1 rfl (Nat.le_of_ble_eq_true rfl) dL_undone_138 ⟨by show _ ≤ 7473; omega, by show _ ≤ 53737; omega⟩ (fun H locs hR hk => ?_)
        refine lv_istore (lv' := [(9, .int r_43), (8, .int x_20), (7, .int x_19), (6, .int x_18), (5, .int x_17), (0, .ref b0), (1, .ref (ad 228)), (2, .ref q2), (3, .int x3), (4, .int x4)]) hx hb dL_undone_141 hl (by decide) rfl (fun ls hl => ?_)
        refine lv_goto (tgt := 332) hx hb dL_undone_143 (by decide) ?_
        exact mL_undone_L332 (B := cc + 641) (S := cs + 4958) (by omega) (by omega) hst hC hr hE (fun y0 y1 y2 y3 y4 cc2 cs2 H2 locs2 ls2 hf2 hR2 hl2 hc2 hs2 => ih y0 y1 y2 y3 y4 cc2 cs2 H2 locs2 ls2 hf2 hR2 hl2 (by omega) (by omega)) _ _ _ _ _ _ _ _ _ _ _ hf hR (lv_sub hl [5, 6, 7, 8, 9, 0] rfl) (by omega) (by omega) (by omega) (by omega)
      have hf := qif_f hf c__42
      by_cases c__46 : x_26 = 2
      · have hf := qif_t hf c__46
        refine lv_tableIn (off := 82) (tgt := 146) hx hb dL_undone_64 (by rw [c__46]; decide) (by rw [c__46]; decide) (by rw [c__46]; decide) (by decide) ?_
        refine lv_aload_n hx hb dL_undone_146 rfl (lv_at hl 5 rfl) ?_
        refine lv_iload hx hb dL_undone_147 (lv_at hl 1 rfl) ?_
        refine lv_iload hx hb dL_undone_149 (lv_at hl 0 rfl) ?_
        obtain ⟨r_47, w_48, hq_49, hf⟩ := qbd2_s hf
        refine l_callSWi hC hR (l_ofHW hJ (mL_cat hJ hst hq_49)) lNo_k trivial lp_C lp_C.symm qkl_528 qkl_529 qkl_18 qkl_530 qhd_L_cat ⟨Nat.le_of_ble_eq_true rfl, Nat.le_of_ble_eq_true rfl⟩ hl.1 rfl (Nat.le_of_ble_eq_true rfl) dL_undone_151 ⟨by show _ ≤ 7473; omega, by show _ ≤ 53737; omega⟩ (fun H locs hR hk => ?_)
        refine lv_istore (lv' := [(9, .int r_47), (8, .int x_20), (7, .int x_19), (6, .int x_18), (5, .int x_17), (0, .ref b0), (1, .ref (ad 228)), (2, .ref q2), (3, .int x3), (4, .int x4)]) hx hb dL_undone_154 hl (by decide) rfl (fun ls hl => ?_)
        refine lv_goto (tgt := 332) hx hb dL_undone_156 (by decide) ?_
        exact mL_undone_L332 (B := cc + 641) (S := cs + 4958) (by omega) (by omega) hst hC hr hE (fun y0 y1 y2 y3 y4 cc2 cs2 H2 locs2 ls2 hf2 hR2 hl2 hc2 hs2 => ih y0 y1 y2 y3 y4 cc2 cs2 H2 locs2 ls2 hf2 hR2 hl2 (by omega) (by omega)) _ _ _ _ _ _ _ _ _ _ _ hf hR (lv_sub hl [5, 6, 7, 8, 9, 0] rfl) (by omega) (by omega) (by omega) (by omega)
      have hf := qif_f hf c__46
      by_cases c__50 : x_26 = 3
      · have hf := qif_t hf c__50
        refine lv_tableIn (off := 95) (tgt := 159) hx hb dL_undone_64 (by rw [c__50]; decide) (by rw [c__50]; decide) (by rw [c__50]; decide) (by decide) ?_
        refine lv_aload_n hx hb dL_undone_159 rfl (lv_at hl 5 rfl) ?_
        refine lv_iload hx hb dL_undone_160 (lv_at hl 0 rfl) ?_
        obtain ⟨r_51, w_52, hq_53, hf⟩ := qbd2_s hf
        refine l_callSWi hC hR (l_ofHW hJ (mL_take hJ hst hq_53)) lNo_k trivial lp_C lp_C.symm qkl_1204 qkl_1205 qkl_18 qkl_1206 qhd_L_take ⟨Nat.le_of_ble_eq_true rfl, Nat.le_of_ble_eq_true rfl⟩ hl.1 rfl (Nat.le_of_ble_eq_true rfl) dL_undone_162 ⟨by show _ ≤ 7473; omega, by show _ ≤ 53737; omega⟩ (fun H locs hR hk => ?_)
        refine lv_istore (lv' := [(9, .int r_51), (8, .int x_20), (7, .int x_19), (6, .int x_18), (5, .int x_17), (0, .ref b0), (1, .ref (ad 228)), (2, .ref q2), (3, .int x3), (4, .int x4)]) hx hb dL_undone_165 hl (by decide) rfl (fun ls hl => ?_)
        refine lv_goto (tgt := 332) hx hb dL_undone_167 (by decide) ?_
        exact mL_undone_L332 (B := cc + 641) (S := cs + 4958) (by omega) (by omega) hst hC hr hE (fun y0 y1 y2 y3 y4 cc2 cs2 H2 locs2 ls2 hf2 hR2 hl2 hc2 hs2 => ih y0 y1 y2 y3 y4 cc2 cs2 H2 locs2 ls2 hf2 hR2 hl2 (by omega) (by omega)) _ _ _ _ _ _ _ _ _ _ _ hf hR (lv_sub hl [5, 6, 7, 8, 9, 0] rfl) (by omega) (by omega) (by omega) (by omega)
      have hf := qif_f hf c__50
      by_cases c__54 : x_26 = 4
      · have hf := qif_t hf c__54
        refine lv_tableIn (off := 106) (tgt := 170) hx hb dL_undone_64 (by rw [c__54]; decide) (by rw [c__54]; decide) (by rw [c__54]; decide) (by decide) ?_
        refine lv_aload_n hx hb dL_undone_170 rfl (lv_at hl 5 rfl) ?_
        refine lv_iload hx hb dL_undone_171 (lv_at hl 0 rfl) ?_
        refine lv_iload hx hb dL_undone_173 (lv_at hl 2 rfl) ?_
        refine lv_bipush (v := 7) hx hb dL_undone_175 (by decide) ?_
        refine lv_iushr hx hb dL_undone_177 rfl ?_
        refine lv_bipush (v := 11) hx hb dL_undone_178 (by decide) ?_
        refine lv_irem hx hb dL_undone_180 (by decide) ?_
        obtain ⟨r_55, w_56, hq_57, hf⟩ := qbd2_s hf
        refine l_callSWi hC hR (l_ofHW hJ (mL_cue hJ hst hq_57)) lNo_k trivial lp_C lp_C.symm qkl_569 qkl_570 qkl_18 qkl_571 qhd_L_cue ⟨Nat.le_of_ble_eq_true rfl, Nat.le_of_ble_eq_true rfl⟩ hl.1 rfl (Nat.le_of_ble_eq_true rfl) dL_undone_181 ⟨by show _ ≤ 7473; omega, by show _ ≤ 53737; omega⟩ (fun H locs hR hk => ?_)
        refine lv_istore (lv' := [(9, .int r_55), (8, .int x_20), (7, .int x_19), (6, .int x_18), (5, .int x_17), (0, .ref b0), (1, .ref (ad 228)), (2, .ref q2), (3, .int x3), (4, .int x4)]) hx hb dL_undone_184 hl (by decide) rfl (fun ls hl => ?_)
        refine lv_goto (tgt := 332) hx hb dL_undone_186 (by decide) ?_
        exact mL_undone_L332 (B := cc + 641) (S := cs + 4958) (by omega) (by omega) hst hC hr hE (fun y0 y1 y2 y3 y4 cc2 cs2 H2 locs2 ls2 hf2 hR2 hl2 hc2 hs2 => ih y0 y1 y2 y3 y4 cc2 cs2 H2 locs2 ls2 hf2 hR2 hl2 (by omega) (by omega)) _ _ _ _ _ _ _ _ _ _ _ hf hR (lv_sub hl [5, 6, 7, 8, 9, 0] rfl) (by omega) (by omega) (by omega) (by omega)
      have hf := qif_f hf c__54
      by_cases c__58 : x_26 = 5
      · have hf := qif_t hf c__58
        refine lv_tableIn (off := 125) (tgt := 189) hx hb dL_undone_64 (by rw [c__58]; decide) (by rw [c__58]; decide) (by rw [c__58]; decide) (by decide) ?_
        refine lv_aload_n hx hb dL_undone_189 rfl (lv_at hl 5 rfl) ?_
        refine lv_iload hx hb dL_undone_190 (lv_at hl 0 rfl) ?_
        obtain ⟨r_59, w_60, hq_61, hf⟩ := qbd2_s hf
        refine l_callSWi hC hR (l_ofHW hJ (mL_set hJ hst hq_61)) lNo_k trivial lp_C lp_C.symm qkl_615 qkl_616 qkl_18 qkl_617 qhd_L_set ⟨Nat.le_of_ble_eq_true rfl, Nat.le_of_ble_eq_true rfl⟩ hl.1 rfl (Nat.le_of_ble_eq_true rfl) dL_undone_192 ⟨by show _ ≤ 7473; omega, by show _ ≤ 53737; omega⟩ (fun H locs hR hk => ?_)
        refine lv_istore (lv' := [(9, .int r_59), (8, .int x_20), (7, .int x_19), (6, .int x_18), (5, .int x_17), (0, .ref b0), (1, .ref (ad 228)), (2, .ref q2), (3, .int x3), (4, .int x4)]) hx hb dL_undone_195 hl (by decide) rfl (fun ls hl => ?_)
        refine lv_goto (tgt := 332) hx hb dL_undone_197 (by decide) ?_
        exact mL_undone_L332 (B := cc + 641) (S := cs + 4958) (by omega) (by omega) hst hC hr hE (fun y0 y1 y2 y3 y4 cc2 cs2 H2 locs2 ls2 hf2 hR2 hl2 hc2 hs2 => ih y0 y1 y2 y3 y4 cc2 cs2 H2 locs2 ls2 hf2 hR2 hl2 (by omega) (by omega)) _ _ _ _ _ _ _ _ _ _ _ hf hR (lv_sub hl [5, 6, 7, 8, 9, 0] rfl) (by omega) (by omega) (by omega) (by omega)
      have hf := qif_f hf c__58
      by_cases c__62 : x_26 = 6
      · have hf := qif_t hf c__62
        refine lv_tableIn (off := 136) (tgt := 200) hx hb dL_undone_64 (by rw [c__62]; decide) (by rw [c__62]; decide) (by rw [c__62]; decide) (by decide) ?_
        refine lv_aload_n hx hb dL_undone_200 rfl (lv_at hl 5 rfl) ?_
        obtain ⟨r_64, w_65, hq_63, hf⟩ := qbd2_s hf
        refine l_callVi hC hR (l_ofMi hJ (mX5_shock hJ hq_63)) lNo_k trivial lp_C lp_C.symm (l_recv hC hR (lX_mc (k := 228) (by decide)) rfl) qkl_628 qk_629 qk_630 qk_19 qk_631 qhd_X5_shock ⟨Nat.le_of_ble_eq_true rfl, Nat.le_of_ble_eq_true rfl⟩ hl.1 rfl (Nat.le_of_ble_eq_true rfl) dL_undone_201 ⟨by show _ ≤ 7473; omega, by show _ ≤ 53737; omega⟩ (fun H locs hR hk => ?_)
        refine lv_istore (lv' := [(9, .int r_64), (8, .int x_20), (7, .int x_19), (6, .int x_18), (5, .int x_17), (0, .ref b0), (1, .ref (ad 228)), (2, .ref q2), (3, .int x3), (4, .int x4)]) hx hb dL_undone_204 hl (by decide) rfl (fun ls hl => ?_)
        refine lv_goto (tgt := 332) hx hb dL_undone_206 (by decide) ?_
        exact mL_undone_L332 (B := cc + 641) (S := cs + 4958) (by omega) (by omega) hst hC hr hE (fun y0 y1 y2 y3 y4 cc2 cs2 H2 locs2 ls2 hf2 hR2 hl2 hc2 hs2 => ih y0 y1 y2 y3 y4 cc2 cs2 H2 locs2 ls2 hf2 hR2 hl2 (by omega) (by omega)) _ _ _ _ _ _ _ _ _ _ _ hf hR (lv_sub hl [5, 6, 7, 8, 9, 0] rfl) (by omega) (by omega) (by omega) (by omega)
      have hf := qif_f hf c__62
      by_cases c__66 : x_26 = 7
      · have hf := qif_t hf c__66
        refine lv_tableIn (off := 145) (tgt := 209) hx hb dL_undone_64 (by rw [c__66]; decide) (by rw [c__66]; decide) (by rw [c__66]; decide) (by decide) ?_
        refine lv_aload_n hx hb dL_undone_209 rfl (lv_at hl 5 rfl) ?_
        refine lv_iload hx hb dL_undone_210 (lv_at hl 0 rfl) ?_
        obtain ⟨r_67, w_68, hq_69, hf⟩ := qbd2_s hf
        refine l_callSWi hC hR (l_ofHW hJ (mL_add hJ hst hq_69)) lNo_k trivial lp_C lp_C.symm qkl_632 qkl_633 qkl_18 qkl_634 qhd_L_add ⟨Nat.le_of_ble_eq_true rfl, Nat.le_of_ble_eq_true rfl⟩ hl.1 rfl (Nat.le_of_ble_eq_true rfl) dL_undone_212 ⟨by show _ ≤ 7473; omega, by show _ ≤ 53737; omega⟩ (fun H locs hR hk => ?_)
        refine lv_istore (lv' := [(9, .int r_67), (8, .int x_20), (7, .int x_19), (6, .int x_18), (5, .int x_17), (0, .ref b0), (1, .ref (ad 228)), (2, .ref q2), (3, .int x3), (4, .int x4)]) hx hb dL_undone_215 hl (by decide) rfl (fun ls hl => ?_)
        refine lv_goto (tgt := 332) hx hb dL_undone_217 (by decide) ?_
        exact mL_undone_L332 (B := cc + 641) (S := cs + 4958) (by omega) (by omega) hst hC hr hE (fun y0 y1 y2 y3 y4 cc2 cs2 H2 locs2 ls2 hf2 hR2 hl2 hc2 hs2 => ih y0 y1 y2 y3 y4 cc2 cs2 H2 locs2 ls2 hf2 hR2 hl2 (by omega) (by omega)) _ _ _ _ _ _ _ _ _ _ _ hf hR (lv_sub hl [5, 6, 7, 8, 9, 0] rfl) (by omega) (by omega) (by omega) (by omega)
      have hf := qif_f hf c__66
      by_cases c__70 : x_26 = 8
      · have hf := qif_t hf c__70
        refine lv_tableIn (off := 156) (tgt := 220) hx hb dL_undone_64 (by rw [c__70]; decide) (by rw [c__70]; decide) (by rw [c__70]; decide) (by decide) ?_
        refine lv_aload_n hx hb dL_undone_220 rfl (lv_at hl 5 rfl) ?_
        obtain ⟨r_71, w_72, hq_73, hf⟩ := qbd2_s hf
        refine l_callSWi hC hR (l_ofHW hJ (mL_perform hJ hst hq_73)) lNo_k trivial lp_C lp_C.symm qkl_1211 qkl_1212 qkl_18 qkl_1213 qhd_L_perform ⟨Nat.le_of_ble_eq_true rfl, Nat.le_of_ble_eq_true rfl⟩ hl.1 rfl (Nat.le_of_ble_eq_true rfl) dL_undone_221 ⟨by show _ ≤ 7473; omega, by show _ ≤ 53737; omega⟩ (fun H locs hR hk => ?_)
        refine lv_istore (lv' := [(9, .int r_71), (8, .int x_20), (7, .int x_19), (6, .int x_18), (5, .int x_17), (0, .ref b0), (1, .ref (ad 228)), (2, .ref q2), (3, .int x3), (4, .int x4)]) hx hb dL_undone_224 hl (by decide) rfl (fun ls hl => ?_)
        refine lv_goto (tgt := 332) hx hb dL_undone_226 (by decide) ?_
        exact mL_undone_L332 (B := cc + 641) (S := cs + 4958) (by omega) (by omega) hst hC hr hE (fun y0 y1 y2 y3 y4 cc2 cs2 H2 locs2 ls2 hf2 hR2 hl2 hc2 hs2 => ih y0 y1 y2 y3 y4 cc2 cs2 H2 locs2 ls2 hf2 hR2 hl2 (by omega) (by omega)) _ _ _ _ _ _ _ _ _ _ _ hf hR (lv_sub hl [5, 6, 7, 8, 9, 0] rfl) (by omega) (by omega) (by omega) (by omega)
      have hf := qif_f hf c__70
      by_cases c__74 : x_26 = 9
      · have hf := qif_t hf c__74
        refine lv_tableIn (off := 165) (tgt := 229) hx hb dL_undone_64 (by rw [c__74]; decide) (by rw [c__74]; decide) (by rw [c__74]; decide) (by decide) ?_
        refine lv_aload_n hx hb dL_undone_229 rfl (lv_at hl 5 rfl) ?_
        obtain ⟨r_76, w_77, hq_75, hf⟩ := qbd2_s hf
        refine l_callVi hC hR (l_ofMi hJ (mX5_quiet hJ hq_75)) lNo_k trivial lp_C lp_C.symm (l_recv hC hR (lX_mc (k := 228) (by decide)) rfl) qkl_1219 qk_1220 qk_1221 qk_19 qk_1222 qhd_X5_quiet ⟨Nat.le_of_ble_eq_true rfl, Nat.le_of_ble_eq_true rfl⟩ hl.1 rfl (Nat.le_of_ble_eq_true rfl) dL_undone_230 ⟨by show _ ≤ 7473; omega, by show _ ≤ 53737; omega⟩ (fun H locs hR hk => ?_)
        refine lv_istore (lv' := [(9, .int r_76), (8, .int x_20), (7, .int x_19), (6, .int x_18), (5, .int x_17), (0, .ref b0), (1, .ref (ad 228)), (2, .ref q2), (3, .int x3), (4, .int x4)]) hx hb dL_undone_233 hl (by decide) rfl (fun ls hl => ?_)
        refine lv_goto (tgt := 332) hx hb dL_undone_235 (by decide) ?_
        exact mL_undone_L332 (B := cc + 641) (S := cs + 4958) (by omega) (by omega) hst hC hr hE (fun y0 y1 y2 y3 y4 cc2 cs2 H2 locs2 ls2 hf2 hR2 hl2 hc2 hs2 => ih y0 y1 y2 y3 y4 cc2 cs2 H2 locs2 ls2 hf2 hR2 hl2 (by omega) (by omega)) _ _ _ _ _ _ _ _ _ _ _ hf hR (lv_sub hl [5, 6, 7, 8, 9, 0] rfl) (by omega) (by omega) (by omega) (by omega)
      have hf := qif_f hf c__74
      refine lv_tableOut (tgt := 238) hx hb dL_undone_64 (by have hc__27 := qne (z := 0) c__27 rfl; have hc__42 := qne (z := 1) c__42 rfl; have hc__46 := qne (z := 2) c__46 rfl; have hc__50 := qne (z := 3) c__50 rfl; have hc__54 := qne (z := 4) c__54 rfl; have hc__58 := qne (z := 5) c__58 rfl; have hc__62 := qne (z := 6) c__62 rfl; have hc__66 := qne (z := 7) c__66 rfl; have hc__70 := qne (z := 8) c__70 rfl; have hc__74 := qne (z := 9) c__74 rfl; omega) (by decide) ?_
      refine lv_aload_n hx hb dL_undone_238 rfl (lv_at hl 5 rfl) ?_
      refine l_new (Cn := RJ4) (T := TJ4) (N := 4) (ci := 1) tyJ4 tyJ4_ok hC hR qkj_870 qkB_inst qkB_init qinJ4 rfl (fs := [.null, .int 0, .int 0, .int 0]) (fun j hj => by rcases (show j = 0 ∨ j = 1 ∨ j = 2 ∨ j = 3 by omega) with rfl | rfl | rfl | rfl <;> rfl) (by show _ ≤ 7473; omega) (by show _ ≤ 53737; omega) dL_undone_239 (fun b_78 H hR hk => ?_)
      refine lv_dup hx hb dL_undone_242 rfl ?_
      refine l_callIv hC hR (mB_init hJ) lNo_k trivial lp_O (fun _ => lp_OB) qkj_872 qkj_873 rfl qkB_init qkj_874 qhd_B_init ⟨Nat.le_of_ble_eq_true rfl, Nat.le_of_ble_eq_true rfl⟩ hl.1 rfl (Nat.le_of_ble_eq_true rfl) dL_undone_243 ⟨by show _ ≤ 7473; omega, by show _ ≤ 53737; omega⟩ (fun v_79 H locs _ hR hk => ?_)
      have hR : lR D (lX (qcells G ad w0) [] []) (lX (qcells G ad w_23) [(b_78, .inr (1, [.ref v_79, .int 0, .int 0, .int (nI ([] : List Int32).length)])), (v_79, .inl (G 5, 16, .inl (fun _ => 0))), (q2, .inl (G 6, 9, .inr (.inl f_25)))] []) s H locs := hR
      refine va_ldcSW (q := ad 1016) hx hb hC.2.2.2.1 (hC.2.2.2.2.2.2.2.2.1.2.1 ("QuakeRehearsalLaw", 303, "shock;add ", 16) (by decide +kernel)) dL_undone_246 ?_
      obtain ⟨g_80, hf⟩ := qgd hf
      have ha_81 := qSt_asc (l_now qSt_k hR (lSt_of hC (show 16 < 20 by decide)))
      refine l_callVr hC hR (mB_aps hJ (b := b_78) (v := v_79) (cap := 16) (n := ([] : List Int32).length) (f := (fun _ => 0)) (q := (ad 1016)) (t := (qtx.getD 16 [])) g_80 lSB_0.2.2.1 lSB_0.2.2.2.1 lSB_0.2.2.2.2.2) qSt_k (l_now qSt_k hR (lSt_of hC (show 16 < 20 by decide))) lp_B (fun _ _ => lp_B1) (l_recv hC hR (lX_mx 0 rfl) (ci := 1) rfl) qkj_1015 qkj_1016 qkj_1017 qkB_init qkj_1018 qhd_B_aps ⟨Nat.le_of_ble_eq_true rfl, Nat.le_of_ble_eq_true rfl⟩ hl.1 rfl (Nat.le_of_ble_eq_true rfl) dL_undone_249 ⟨by show _ ≤ 7473; omega, by show _ ≤ 53737; omega⟩ (fun _ _ => lNo_k) (fun u_82 a_83 H locs hY hR hk _ => ?_)
      obtain ⟨ea, hB_84⟩ := lSB_aps lSB_0 ha_81 g_80 hY
      rw [ea]
      obtain ⟨t_85, et_85⟩ : ∃ y : List Int32, y = ([] : List Int32) ++ (qtx.getD 16 []) := ⟨_, rfl⟩
      have hf := qnm_t hf et_85
      rw [← et_85] at hB_84
      have hR : lR D (lX (qcells G ad w0) [] []) (lX (qcells G ad w_23) [(b_78, .inr (1, [.ref u_82.1, .int 0, .int 0, .int (nI t_85.length)])), (u_82.1, .inl (G 5, u_82.2.1, .inl u_82.2.2)), (q2, .inl (G 6, 9, .inr (.inl f_25)))] []) s H locs := by rw [et_85, List.length_append]; exact hR
      refine lv_iconst (v := 1) hx hb dL_undone_252 (by decide) ?_
      refine lv_iload hx hb dL_undone_253 (lv_at hl 2 rfl) ?_
      refine lv_bipush (v := 9) hx hb dL_undone_255 (by decide) ?_
      refine lv_irem hx hb dL_undone_257 (by decide) ?_
      refine lv_iadd hx hb dL_undone_258 ?_
      obtain ⟨g_86, hf⟩ := qgd hf
      obtain ⟨g_87, hf⟩ := qgd hf
      obtain ⟨k_88, ek_88⟩ : ∃ y : Nat, y = ((1 : Int32) + (x_18 - x_18 / 9 * 9)).toNatClampNeg := ⟨_, rfl⟩
      have hf := qnm_t hf ek_88
      have hk_88 : k_88 < 100 := by rw [ek_88]; exact lq_lt g_86
      refine l_eqi (x := (1 : Int32) + (x_18 - x_18 / 9 * 9)) (y := nI k_88) (by rw [ek_88]; exact lq_nI g_86 (by decide)) ?_
      refine l_callVr hC hR (mB_api hJ (b := b_78) (v := u_82.1) (cap := u_82.2.1) (n := t_85.length) (f := u_82.2.2) (x := k_88) (o1 := o1) (o2 := o2) hk_88 g_87 hB_84.2.2.1 hB_84.2.2.2.1 hB_84.2.2.2.2.2) lDg_k (l_now lDg_k hR hE.2) lp_B (fun _ _ => lp_B1) (l_recv hC hR (lX_mx 0 rfl) (ci := 1) rfl) qkj_1061 qkj_1062 qkj_1063 qkB_init qkj_1064 qhd_B_api ⟨Nat.le_of_ble_eq_true rfl, Nat.le_of_ble_eq_true rfl⟩ hl.1 rfl (Nat.le_of_ble_eq_true rfl) dL_undone_259 ⟨by show _ ≤ 7473; omega, by show _ ≤ 53737; omega⟩ (fun _ _ => lNo_k) (fun u_89 a_90 H locs hY hR hk _ => ?_)
      obtain ⟨ea, hB_91⟩ := lSB_api hB_84 hk_88 g_87 hY
      rw [ea]
      obtain ⟨t_92, et_92⟩ : ∃ y : List Int32, y = t_85 ++ ldig k_88 := ⟨_, rfl⟩
      have hf := qnm_t hf et_92
      rw [← et_92] at hB_91
      have hR : lR D (lX (qcells G ad w0) [] []) (lX (qcells G ad w_23) [(b_78, .inr (1, [.ref u_89.1, .int 0, .int 0, .int (nI t_92.length)])), (u_89.1, .inl (G 5, u_89.2.1, .inl u_89.2.2)), (q2, .inl (G 6, 9, .inr (.inl f_25)))] []) s H locs := by rw [et_92, List.length_append, ldig_len]; exact hR
      refine va_ldcSW (q := ad 1017) hx hb hC.2.2.2.1 (hC.2.2.2.2.2.2.2.2.1.2.1 ("QuakeRehearsalLaw", 305, ";perform", 17) (by decide +kernel)) dL_undone_262 ?_
      obtain ⟨g_93, hf⟩ := qgd hf
      have ha_94 := qSt_asc (l_now qSt_k hR (lSt_of hC (show 17 < 20 by decide)))
      refine l_callVr hC hR (mB_aps hJ (b := b_78) (v := u_89.1) (cap := u_89.2.1) (n := t_92.length) (f := u_89.2.2) (q := (ad 1017)) (t := (qtx.getD 17 [])) g_93 hB_91.2.2.1 hB_91.2.2.2.1 hB_91.2.2.2.2.2) qSt_k (l_now qSt_k hR (lSt_of hC (show 17 < 20 by decide))) lp_B (fun _ _ => lp_B1) (l_recv hC hR (lX_mx 0 rfl) (ci := 1) rfl) qkj_1015 qkj_1016 qkj_1017 qkB_init qkj_1018 qhd_B_aps ⟨Nat.le_of_ble_eq_true rfl, Nat.le_of_ble_eq_true rfl⟩ hl.1 rfl (Nat.le_of_ble_eq_true rfl) dL_undone_265 ⟨by show _ ≤ 7473; omega, by show _ ≤ 53737; omega⟩ (fun _ _ => lNo_k) (fun u_95 a_96 H locs hY hR hk _ => ?_)
      obtain ⟨ea, hB_97⟩ := lSB_aps hB_91 ha_94 g_93 hY
      rw [ea]
      obtain ⟨t_98, et_98⟩ : ∃ y : List Int32, y = t_92 ++ (qtx.getD 17 []) := ⟨_, rfl⟩
      have hf := qnm_t hf et_98
      rw [← et_98] at hB_97
      have hR : lR D (lX (qcells G ad w0) [] []) (lX (qcells G ad w_23) [(b_78, .inr (1, [.ref u_95.1, .int 0, .int 0, .int (nI t_98.length)])), (u_95.1, .inl (G 5, u_95.2.1, .inl u_95.2.2)), (q2, .inl (G 6, 9, .inr (.inl f_25)))] []) s H locs := by rw [et_98, List.length_append]; exact hR
      refine lv_iload hx hb dL_undone_268 (lv_at hl 3 rfl) ?_
      refine lv_bipush (v := 22) hx hb dL_undone_270 (by decide) ?_
      refine lv_irem hx hb dL_undone_272 (by decide) ?_
      refine lv_bipush (v := 11) hx hb dL_undone_273 (by decide) ?_
      refine lv_icmp_ge (tgt := 283) hx hb dL_undone_275 (by decide) (fun c__99 => ?_) (fun c__99 => ?_)
      · have hf := qif_t hf c__99
        refine l_new (Cn := RJ4) (T := TJ4) (N := 4) (ci := 1) tyJ4 tyJ4_ok hC hR qkj_870 qkB_inst qkB_init qinJ4 rfl (fs := [.null, .int 0, .int 0, .int 0]) (fun j hj => by rcases (show j = 0 ∨ j = 1 ∨ j = 2 ∨ j = 3 by omega) with rfl | rfl | rfl | rfl <;> rfl) (by show _ ≤ 7473; omega) (by show _ ≤ 53737; omega) dL_undone_283 (fun b_100 H hR hk => ?_)
        refine lv_dup hx hb dL_undone_286 rfl ?_
        refine l_callIv hC hR (mB_init hJ) lNo_k trivial lp_O (fun _ => lp_OB) qkj_872 qkj_873 rfl qkB_init qkj_874 qhd_B_init ⟨Nat.le_of_ble_eq_true rfl, Nat.le_of_ble_eq_true rfl⟩ hl.1 rfl (Nat.le_of_ble_eq_true rfl) dL_undone_287 ⟨by show _ ≤ 7473; omega, by show _ ≤ 53737; omega⟩ (fun v_101 H locs _ hR hk => ?_)
        have hR : lR D (lX (qcells G ad w0) [] []) (lX (qcells G ad w_23) [(b_100, .inr (1, [.ref v_101, .int 0, .int 0, .int (nI ([] : List Int32).length)])), (v_101, .inl (G 5, 16, .inl (fun _ => 0))), (b_78, .inr (1, [.ref u_95.1, .int 0, .int 0, .int (nI t_98.length)])), (u_95.1, .inl (G 5, u_95.2.1, .inl u_95.2.2)), (q2, .inl (G 6, 9, .inr (.inl f_25)))] []) s H locs := hR
        refine va_ldcSW (q := ad 1018) hx hb hC.2.2.2.1 (hC.2.2.2.2.2.2.2.2.1.2.1 ("QuakeRehearsalLaw", 307, ";take ", 18) (by decide +kernel)) dL_undone_290 ?_
        obtain ⟨g_102, hf⟩ := qgd hf
        have ha_103 := qSt_asc (l_now qSt_k hR (lSt_of hC (show 18 < 20 by decide)))
        refine l_callVr hC hR (mB_aps hJ (b := b_100) (v := v_101) (cap := 16) (n := ([] : List Int32).length) (f := (fun _ => 0)) (q := (ad 1018)) (t := (qtx.getD 18 [])) g_102 lSB_0.2.2.1 lSB_0.2.2.2.1 lSB_0.2.2.2.2.2) qSt_k (l_now qSt_k hR (lSt_of hC (show 18 < 20 by decide))) lp_B (fun _ _ => lp_B1) (l_recv hC hR (lX_mx 0 rfl) (ci := 1) rfl) qkj_1015 qkj_1016 qkj_1017 qkB_init qkj_1018 qhd_B_aps ⟨Nat.le_of_ble_eq_true rfl, Nat.le_of_ble_eq_true rfl⟩ hl.1 rfl (Nat.le_of_ble_eq_true rfl) dL_undone_293 ⟨by show _ ≤ 7473; omega, by show _ ≤ 53737; omega⟩ (fun _ _ => lNo_k) (fun u_104 a_105 H locs hY hR hk _ => ?_)
        obtain ⟨ea, hB_106⟩ := lSB_aps lSB_0 ha_103 g_102 hY
        rw [ea]
        obtain ⟨t_107, et_107⟩ : ∃ y : List Int32, y = ([] : List Int32) ++ (qtx.getD 18 []) := ⟨_, rfl⟩
        have hf := qnm_t hf et_107
        rw [← et_107] at hB_106
        have hR : lR D (lX (qcells G ad w0) [] []) (lX (qcells G ad w_23) [(b_100, .inr (1, [.ref u_104.1, .int 0, .int 0, .int (nI t_107.length)])), (u_104.1, .inl (G 5, u_104.2.1, .inl u_104.2.2)), (b_78, .inr (1, [.ref u_95.1, .int 0, .int 0, .int (nI t_98.length)])), (u_95.1, .inl (G 5, u_95.2.1, .inl u_95.2.2)), (q2, .inl (G 6, 9, .inr (.inl f_25)))] []) s H locs := by rw [et_107, List.length_append]; exact hR
        refine lv_iload hx hb dL_undone_296 (lv_at hl 2 rfl) ?_
        refine lv_bipush (v := 14) hx hb dL_undone_298 (by decide) ?_
        refine lv_irem hx hb dL_undone_300 (by decide) ?_
        obtain ⟨g_108, hf⟩ := qgd hf
        obtain ⟨g_109, hf⟩ := qgd hf
        obtain ⟨k_110, ek_110⟩ : ∃ y : Nat, y = (x_18 - x_18 / 14 * 14).toNatClampNeg := ⟨_, rfl⟩
        have hf := qnm_t hf ek_110
        have hk_110 : k_110 < 100 := by rw [ek_110]; exact lq_lt g_108
        refine l_eqi (x := x_18 - x_18 / 14 * 14) (y := nI k_110) (by rw [ek_110]; exact lq_nI g_108 (by decide)) ?_
        refine l_callVr hC hR (mB_api hJ (b := b_100) (v := u_104.1) (cap := u_104.2.1) (n := t_107.length) (f := u_104.2.2) (x := k_110) (o1 := o1) (o2 := o2) hk_110 g_109 hB_106.2.2.1 hB_106.2.2.2.1 hB_106.2.2.2.2.2) lDg_k (l_now lDg_k hR hE.2) lp_B (fun _ _ => lp_B1) (l_recv hC hR (lX_mx 0 rfl) (ci := 1) rfl) qkj_1061 qkj_1062 qkj_1063 qkB_init qkj_1064 qhd_B_api ⟨Nat.le_of_ble_eq_true rfl, Nat.le_of_ble_eq_true rfl⟩ hl.1 rfl (Nat.le_of_ble_eq_true rfl) dL_undone_301 ⟨by show _ ≤ 7473; omega, by show _ ≤ 53737; omega⟩ (fun _ _ => lNo_k) (fun u_111 a_112 H locs hY hR hk _ => ?_)
        obtain ⟨ea, hB_113⟩ := lSB_api hB_106 hk_110 g_109 hY
        rw [ea]
        obtain ⟨t_114, et_114⟩ : ∃ y : List Int32, y = t_107 ++ ldig k_110 := ⟨_, rfl⟩
        have hf := qnm_t hf et_114
        rw [← et_114] at hB_113
        have hR : lR D (lX (qcells G ad w0) [] []) (lX (qcells G ad w_23) [(b_100, .inr (1, [.ref u_111.1, .int 0, .int 0, .int (nI t_114.length)])), (u_111.1, .inl (G 5, u_111.2.1, .inl u_111.2.2)), (b_78, .inr (1, [.ref u_95.1, .int 0, .int 0, .int (nI t_98.length)])), (u_95.1, .inl (G 5, u_95.2.1, .inl u_95.2.2)), (q2, .inl (G 6, 9, .inr (.inl f_25)))] []) s H locs := by rw [et_114, List.length_append, ldig_len]; exact hR
        refine l_callVs (tx := t_114) hC hR (mB_toString hJ (b := b_100) (v := u_111.1) (cap := u_111.2.1) (n := t_114.length) (f := u_111.2.2) (tx := t_114) hB_113.2.1 hB_113.2.2.1 hB_113.2.2.2.1 hB_113.2.2.2.2.2 hB_113.1 rfl hB_113.2.2.2.2.1) lNo_k trivial lp_B lp_B1 (lad_lt hR) (l_recv hC hR (lX_mx 0 rfl) (ci := 1) rfl) qkj_1087 qkj_1088 qkj_1089 qkB_init qkj_1090 qhd_B_toString ⟨Nat.le_of_ble_eq_true rfl, Nat.le_of_ble_eq_true rfl⟩ hl.1 rfl (Nat.le_of_ble_eq_true rfl) dL_undone_304 ⟨by show _ ≤ 7473; omega, by show _ ≤ 53737; omega⟩ (fun sq_115 H locs hR hk hS_116 => ?_)
        have hk := lK_pick (ad := ad) (H := H) (C := (qcells G ad w_23)) (ex := [(b_100, .inr (1, [.ref u_111.1, .int 0, .int 0, .int (nI t_114.length)])), (u_111.1, .inl (G 5, u_111.2.1, .inl u_111.2.2)), (b_78, .inr (1, [.ref u_95.1, .int 0, .int 0, .int (nI t_98.length)])), (u_95.1, .inl (G 5, u_95.2.1, .inl u_95.2.2)), (q2, .inl (G 6, 9, .inr (.inl f_25)))]) (g := []) [2, 3, 4] (ex1 := [(b_78, .inr (1, [.ref u_95.1, .int 0, .int 0, .int (nI t_98.length)])), (u_95.1, .inl (G 5, u_95.2.1, .inl u_95.2.2)), (q2, .inl (G 6, 9, .inr (.inl f_25)))]) (g1 := []) rfl (Or.inl rfl)
        have hR := lR_pick hR [2, 3, 4] (ex1 := [(b_78, .inr (1, [.ref u_95.1, .int 0, .int 0, .int (nI t_98.length)])), (u_95.1, .inl (G 5, u_95.2.1, .inl u_95.2.2)), (q2, .inl (G 6, 9, .inr (.inl f_25)))]) (g1 := []) (by decide) rfl (Or.inl rfl)
        have hS_116 := lK_on qSt_k hS_116 hk
        exact mL_undone_L307 (B := cc + 641) (S := cs + 4958) (by omega) (by omega) hst hC hr hE (fun y0 y1 y2 y3 y4 cc2 cs2 H2 locs2 ls2 hf2 hR2 hl2 hc2 hs2 => ih y0 y1 y2 y3 y4 cc2 cs2 H2 locs2 ls2 hf2 hR2 hl2 (by omega) (by omega)) _ _ _ _ _ _ _ _ _ _ _ _ _ hB_97 _ _ _ _ _ hf hR (lv_sub hl [4, 5, 6, 7, 8, 2] rfl) hS_116 (by omega) (by omega) (by omega) (by omega)
      · have hf := qif_f hf c__99
        refine va_ldcS (q := ad 1011) hx hb hC.2.2.2.1 (hC.2.2.2.2.2.2.2.2.1.2.1 ("QuakeRehearsalLaw", 255, "", 11) (by decide +kernel)) dL_undone_278 ?_
        refine lv_goto (tgt := 307) hx hb dL_undone_280 (by decide) ?_
        exact mL_undone_L307 (B := cc + 641) (S := cs + 4958) (by omega) (by omega) hst hC hr hE (fun y0 y1 y2 y3 y4 cc2 cs2 H2 locs2 ls2 hf2 hR2 hl2 hc2 hs2 => ih y0 y1 y2 y3 y4 cc2 cs2 H2 locs2 ls2 hf2 hR2 hl2 (by omega) (by omega)) _ _ _ _ _ _ _ _ _ _ _ _ _ hB_97 _ _ _ _ _ hf hR (lv_sub hl [4, 5, 6, 7, 8, 2] rfl) (l_now qSt_k hR (lSt_of hC (show 11 < 20 by decide))) (by omega) (by omega) (by omega) (by omega)
def fL_undone (w0 : qMem) (L : Nat) (xs : Nat → Int32) : Option (Int32 × qMem) :=
  fL_undone_L10 L xs 8 w0 (fun _ => 0) 0 0
theorem qhd_L_undone : yL_undone.cls ≠ "java/lang/invoke/MethodHandle" ∧ yL_undone.cls ≠ "java/lang/invoke/VarHandle" ∧ (parseMethodDescriptor yL_undone.desc).map (fun d => d.parameters.length) = some 2 := ⟨by decide +kernel, by decide +kernel, by decide +kernel⟩
set_option maxHeartbeats 4000000 in
set_option maxRecDepth 100000 in
theorem mL_undone {l : Launch} {D : va_G} {G : Nat → ClassId} {ad : Nat → Nat} {b0 : Nat} {o1 : Nat} {o2 : Nat} {w0 : qMem} {L : Nat} {xs : Nat → Int32} {rF : Int32} {wF : qMem} (hJ : qInj ad) (hst : l.stackTraces = false) (hf : fL_undone w0 L xs = some (rF, wF)) : lCM l D G ad yL_undone (Cond.code yL_undone cL_undone 10 (some .boolean)) 12 7473 53737 [.ref b0, .ref (ad 228)] (lX (qcells G ad w0) [] []) (lSD b0 L xs o1 o2) (fun st => lQi D (lX (qcells G ad w0) [] []) (lX (qcells G ad wF) [] []) st rF) := by
  refine l_start RL rfl (by decide +kernel) hJ (fun a b h => by simp only [lQi, lQl, lQr, h]) (Nat.le_of_ble_eq_true rfl) ?_
  intro p e s m args below meth c ls hC hr _ hE hR hl
  have hx := hC.1
  have hb := hC.2.1
  have hl : lv_has ls 10 [(0, .ref b0), (1, .ref (ad 228))] := hl
  unfold fL_undone at hf
  refine lv_bipush (v := 9) hx hb dL_undone_0 (by decide) ?_
  refine l_newa (atype := .long) hC hR (t := 6) (N := 9) (E := .inr (.inl (fun _ => 0))) rfl qka_long rfl (fun cA => rfl) (by decide) (by decide) (by decide) (by show _ ≤ 7473; omega) (by show _ ≤ 53737; omega) dL_undone_2 (fun q_1 H hR hk => ?_)
  refine lv_astore_n (lv' := [(2, .ref q_1), (0, .ref b0), (1, .ref (ad 228))]) hx hb dL_undone_4 rfl hl (by decide) rfl (fun ls hl => ?_)
  refine lv_iconst (v := 0) hx hb dL_undone_5 (by decide) ?_
  refine lv_istore_n (lv' := [(3, .int 0), (2, .ref q_1), (0, .ref b0), (1, .ref (ad 228))]) hx hb dL_undone_6 rfl hl (by decide) rfl (fun ls hl => ?_)
  refine lv_iconst (v := 0) hx hb dL_undone_7 (by decide) ?_
  refine lv_istore (lv' := [(4, .int 0), (3, .int 0), (2, .ref q_1), (0, .ref b0), (1, .ref (ad 228))]) hx hb dL_undone_8 hl (by decide) rfl (fun ls hl => ?_)
  exact mL_undone_L10 hst hC hr hE 8 _ _ _ _ _ _ _ _ _ _ hf hR (lv_sub hl [3, 4, 2, 1, 0] rfl) (by omega) (by omega)
