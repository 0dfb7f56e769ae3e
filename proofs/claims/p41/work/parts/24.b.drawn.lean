def fL_drawn_L263 (L : Nat) (xs : Nat → Int32)  : Nat → qMem → Int32 → Int32 → Option (qMem)
  | 0, _, _, _ => none
  | k + 1, w, x2, x4 =>
    if ((x2.toUInt32 >>> (Int32.toUInt32 10 &&& Int32.toUInt32 31)).toInt32) - ((x2.toUInt32 >>> (Int32.toUInt32 10 &&& Int32.toUInt32 31)).toInt32) / 5 * 5 ≤ x4 then
      some (w)
    else
      qbd2 (fL_add w ((1 : Int32) + (((x2.toUInt32 >>> (Int32.toUInt32 ((12 : Int32) + ((3 : Int32) * x4)) &&& Int32.toUInt32 31)).toInt32) - ((x2.toUInt32 >>> (Int32.toUInt32 ((12 : Int32) + ((3 : Int32) * x4)) &&& Int32.toUInt32 31)).toInt32) / 9 * 9))) fun (r_13 : Int32) (w_14 : qMem) =>
      if r_13 = x4 + 1 then
        qnm (x4 + 1) fun (x_17 : Int32) =>
        fL_drawn_L263 L xs k w_14 x2 x_17
      else
        none
set_option maxHeartbeats 4000000 in
set_option maxRecDepth 100000 in
theorem mL_drawn_L263 {p : Program} {l : Launch} {e : Env} {s : State} {m : MethodId} {args : Array Value} {below : List Frame} {meth : Method} {c : Code} {D : va_G} {G : Nat → ClassId} {ad : Nat → Nat} {b0 : Nat} {ad0 : Nat → Nat} {L : Nat} {xs : Nat → Int32} {wF : qMem} (hst : l.stackTraces = false) (hC : lCx p c cL_drawn 9 s m args meth RL D G ad (lX [] [] [])) (hr : meth.sig.returnType = some (.object "QuakeRehearsal")) (hE : (lSA b0 L xs ad ad0) (lA ad (lX [] [] []) s.heap.size) s s.heap) : ∀ (k : Nat), ∀ (w : qMem) (x2 : Int32) (x4 : Int32) (cc cs : Nat) (H : Heap) (locs : List Loc) (ls : Array Slot), fL_drawn_L263 L xs k w x2 x4 = some wF → lR D (lX [] [] []) (lX (qcells G ad w) [] []) s H locs → lv_has ls 9 [(1, .ref (ad 228)), (2, .int x2), (4, .int x4)] → cc + 1 * k ≤ 293 → cs + 6 * k ≤ 2142 → W p l e (qrm 11 293 2142) s m args below meth c H locs cc cs (MQ below (lQo D G ad0 wF s) args s 293 2142 (va_A (lX [] [] []) s.heap.size)) (F0 m 263 ls []) := by
  have hx := hC.1
  have hb := hC.2.1
  have hJ := hC.2.2.2.2.2.2.2.1
  intro k
  induction k with
  | zero => intro w x2 x4 cc cs H locs ls hf; exact nomatch (show (none : Option (qMem)) = some _ from hf)
  | succ k ih =>
    intro w x2 x4 cc cs H locs ls hf hR hl hcM hsM
    rw [fL_drawn_L263] at hf
    refine lv_iload hx hb dL_drawn_263 (lv_at hl 2 rfl) ?_
    refine lv_iload_n hx hb dL_drawn_265 rfl (lv_at hl 1 rfl) ?_
    refine lv_bipush (v := 10) hx hb dL_drawn_266 (by decide) ?_
    refine lv_iushr hx hb dL_drawn_268 rfl ?_
    refine lv_iconst (v := 5) hx hb dL_drawn_269 (by decide) ?_
    refine lv_irem hx hb dL_drawn_270 (by decide) ?_
    refine lv_icmp_ge (tgt := 307) hx hb dL_drawn_271 (by decide) (fun c__12 => ?_) (fun c__12 => ?_)
    · have hf := qif_t hf c__12
      refine lv_aload_n hx hb dL_drawn_307 rfl (lv_at hl 0 rfl) ?_
      have e1 := qso hf
      exact l_oret hC hR hr ⟨_, rfl⟩ hE.2 hJ e1 dL_drawn_308 (by omega) (by omega)
    · have hf := qif_f hf c__12
      refine lv_aload_n hx hb dL_drawn_274 rfl (lv_at hl 0 rfl) ?_
      refine lv_iconst (v := 1) hx hb dL_drawn_275 (by decide) ?_
      refine lv_iload_n hx hb dL_drawn_276 rfl (lv_at hl 1 rfl) ?_
      refine lv_bipush (v := 12) hx hb dL_drawn_277 (by decide) ?_
      refine lv_iconst (v := 3) hx hb dL_drawn_279 (by decide) ?_
      refine lv_iload hx hb dL_drawn_280 (lv_at hl 2 rfl) ?_
      refine lv_imul hx hb dL_drawn_282 ?_
      refine lv_iadd hx hb dL_drawn_283 ?_
      refine lv_iushr hx hb dL_drawn_284 rfl ?_
      refine lv_bipush (v := 9) hx hb dL_drawn_285 (by decide) ?_
      refine lv_irem hx hb dL_drawn_287 (by decide) ?_
      refine lv_iadd hx hb dL_drawn_288 ?_
      obtain ⟨r_13, w_14, hq_15, hf⟩ := qbd2_s hf
      refine l_callSWi hC hR (l_ofHW hJ (mL_add hJ hst hq_15)) lNo_k trivial lp_C lp_C.symm qkl_632 qkl_633 qkl_18 qkl_634 qhd_L_add ⟨Nat.le_of_ble_eq_true rfl, Nat.le_of_ble_eq_true rfl⟩ hl.1 rfl (Nat.le_of_ble_eq_true rfl) dL_drawn_289 ⟨by show _ ≤ 293; omega, by show _ ≤ 2142; omega⟩ (fun H locs hR hk => ?_)
      refine lv_iload hx hb dL_drawn_292 (lv_at hl 2 rfl) ?_
      refine lv_iconst (v := 1) hx hb dL_drawn_294 (by decide) ?_
      refine lv_iadd hx hb dL_drawn_295 ?_
      refine lv_icmp_eq (tgt := 301) hx hb dL_drawn_296 (by decide) (fun c__16 => ?_) (fun c__16 => ?_)
      · have hf := qif_t hf c__16
        obtain ⟨x_17, ex_17⟩ : ∃ y : Int32, y = x4 + 1 := ⟨_, rfl⟩
        have hf := qnm_t hf ex_17
        refine lv_iinc (v := x_17) (lv' := [(4, .int x_17), (1, .ref (ad 228)), (2, .int x2)]) hx hb dL_drawn_301 hl (k := 2) rfl (by rw [ex_17]; rfl) (by decide) rfl (fun ls hl => ?_)
        refine lv_goto (tgt := 263) hx hb dL_drawn_304 (by decide) ?_
        exact ih _ _ _ _ _ _ _ _ hf hR (lv_sub hl [1, 2, 0] rfl) (by omega) (by omega)
      · have hf := qif_f hf c__16
        exact nomatch hf
def fL_drawn_L234 (L : Nat) (xs : Nat → Int32)  : Nat → qMem → Int32 → Int32 → Option (qMem)
  | 0, _, _, _ => none
  | k + 1, w, x2, x4 =>
    if ((x2.toUInt32 >>> (Int32.toUInt32 8 &&& Int32.toUInt32 31)).toInt32) - ((x2.toUInt32 >>> (Int32.toUInt32 8 &&& Int32.toUInt32 31)).toInt32) / 4 * 4 ≤ x4 then
      fL_drawn_L263 L xs 5 w x2 0
    else
      qbd2 (fX5_shock w) fun (r_19 : Int32) (w_20 : qMem) =>
      if 0 ≤ r_19 then
        qnm (x4 + 1) fun (x_22 : Int32) =>
        fL_drawn_L234 L xs k w_20 x2 x_22
      else
        none
set_option maxHeartbeats 4000000 in
set_option maxRecDepth 100000 in
theorem mL_drawn_L234 {p : Program} {l : Launch} {e : Env} {s : State} {m : MethodId} {args : Array Value} {below : List Frame} {meth : Method} {c : Code} {D : va_G} {G : Nat → ClassId} {ad : Nat → Nat} {b0 : Nat} {ad0 : Nat → Nat} {L : Nat} {xs : Nat → Int32} {wF : qMem} (hst : l.stackTraces = false) (hC : lCx p c cL_drawn 9 s m args meth RL D G ad (lX [] [] [])) (hr : meth.sig.returnType = some (.object "QuakeRehearsal")) (hE : (lSA b0 L xs ad ad0) (lA ad (lX [] [] []) s.heap.size) s s.heap) : ∀ (k : Nat), ∀ (w : qMem) (x2 : Int32) (x4 : Int32) (cc cs : Nat) (H : Heap) (locs : List Loc) (ls : Array Slot), fL_drawn_L234 L xs k w x2 x4 = some wF → lR D (lX [] [] []) (lX (qcells G ad w) [] []) s H locs → lv_has ls 9 [(1, .ref (ad 228)), (2, .int x2), (4, .int x4)] → cc + 5 ≤ 293 → cs + 30 ≤ 2142 → W p l e (qrm 11 293 2142) s m args below meth c H locs cc cs (MQ below (lQo D G ad0 wF s) args s 293 2142 (va_A (lX [] [] []) s.heap.size)) (F0 m 234 ls []) := by
  have hx := hC.1
  have hb := hC.2.1
  have hJ := hC.2.2.2.2.2.2.2.1
  intro k
  induction k with
  | zero => intro w x2 x4 cc cs H locs ls hf; exact nomatch (show (none : Option (qMem)) = some _ from hf)
  | succ k ih =>
    intro w x2 x4 cc cs H locs ls hf hR hl hcM hsM
    rw [fL_drawn_L234] at hf
    refine lv_iload hx hb dL_drawn_234 (lv_at hl 2 rfl) ?_
    refine lv_iload_n hx hb dL_drawn_236 rfl (lv_at hl 1 rfl) ?_
    refine lv_bipush (v := 8) hx hb dL_drawn_237 (by decide) ?_
    refine lv_iushr hx hb dL_drawn_239 rfl ?_
    refine lv_iconst (v := 4) hx hb dL_drawn_240 (by decide) ?_
    refine lv_irem hx hb dL_drawn_241 (by decide) ?_
    refine lv_icmp_ge (tgt := 260) hx hb dL_drawn_242 (by decide) (fun c__11 => ?_) (fun c__11 => ?_)
    · have hf := qif_t hf c__11
      refine lv_iconst (v := 0) hx hb dL_drawn_260 (by decide) ?_
      refine lv_istore (lv' := [(4, .int 0), (1, .ref (ad 228)), (2, .int x2)]) hx hb dL_drawn_261 hl (by decide) rfl (fun ls hl => ?_)
      exact mL_drawn_L263 hst hC hr hE 5 _ _ _ _ _ _ _ _ hf hR (lv_sub hl [1, 2, 0] rfl) (by omega) (by omega)
    · have hf := qif_f hf c__11
      refine lv_aload_n hx hb dL_drawn_245 rfl (lv_at hl 0 rfl) ?_
      obtain ⟨r_19, w_20, hq_18, hf⟩ := qbd2_s hf
      refine l_callVi hC hR (l_ofMi hJ (mX5_shock hJ hq_18)) lNo_k trivial lp_C lp_C.symm (l_recv hC hR (lX_mc (k := 228) (by decide)) rfl) qkl_628 qk_629 qk_630 qk_19 qk_631 qhd_X5_shock ⟨Nat.le_of_ble_eq_true rfl, Nat.le_of_ble_eq_true rfl⟩ hl.1 rfl (Nat.le_of_ble_eq_true rfl) dL_drawn_246 ⟨by show _ ≤ 293; omega, by show _ ≤ 2142; omega⟩ (fun H locs hR hk => ?_)
      refine lv_if_ge (tgt := 254) hx hb dL_drawn_249 (by decide) (fun c__21 => ?_) (fun c__21 => ?_)
      · have hf := qif_t hf c__21
        obtain ⟨x_22, ex_22⟩ : ∃ y : Int32, y = x4 + 1 := ⟨_, rfl⟩
        have hf := qnm_t hf ex_22
        refine lv_iinc (v := x_22) (lv' := [(4, .int x_22), (1, .ref (ad 228)), (2, .int x2)]) hx hb dL_drawn_254 hl (k := 2) rfl (by rw [ex_22]; rfl) (by decide) rfl (fun ls hl => ?_)
        refine lv_goto (tgt := 234) hx hb dL_drawn_257 (by decide) ?_
        exact ih _ _ _ _ _ _ _ _ hf hR (lv_sub hl [1, 2, 0] rfl) (by omega) (by omega)
      · have hf := qif_f hf c__21
        exact nomatch hf
def fL_drawn_L143 (L : Nat) (xs : Nat → Int32)  : Nat → qMem → Int32 → Int32 → Option (qMem)
  | 0, _, _, _ => none
  | k + 1, w, x2, x4 =>
    if (3 : Int32) ≤ x4 then
      qbd2 (fL_set w ((1 : Int32) + (((x2.toUInt32 >>> (Int32.toUInt32 4 &&& Int32.toUInt32 31)).toInt32) - ((x2.toUInt32 >>> (Int32.toUInt32 4 &&& Int32.toUInt32 31)).toInt32) / 9 * 9))) fun (r_7 : Int32) (w_8 : qMem) =>
      if 0 ≤ r_7 then
        fL_drawn_L234 L xs 4 w_8 x2 0
      else
        qbd2 (fL_refusal w_8 0) fun (r_23 : Int32) (w_24 : qMem) =>
        if r_23 = 3 then
          fL_drawn_L234 L xs 4 w_24 x2 0
        else
          none
    else
      qbd (fL_cell L xs ((13 : Int32) + x4)) fun (r_28 : Int32) =>
      qnm ((r_28.toUInt32 >>> (Int32.toUInt32 1 &&& Int32.toUInt32 31)).toInt32) fun (x_29 : Int32) =>
      qbd3 (fX5_account w 0) fun (k_32 : Nat) (r_31 : Int32) (w_33 : qMem) =>
      if k_32 = 0 then
      if r_31 = 0 then none else
      qbd2 (fL_cue w_33 (x_29 - x_29 / r_31 * r_31) (((x_29.toUInt32 >>> (Int32.toUInt32 4 &&& Int32.toUInt32 31)).toInt32) - ((x_29.toUInt32 >>> (Int32.toUInt32 4 &&& Int32.toUInt32 31)).toInt32) / 10 * 10)) fun (r_36 : Int32) (w_37 : qMem) =>
      if 0 ≤ r_36 then
        qnm (x4 + 1) fun (x_40 : Int32) =>
        fL_drawn_L143 L xs k w_37 x2 x_40
      else
        qbd2 (fL_refusal w_37 0) fun (r_41 : Int32) (w_42 : qMem) =>
        if (3 : Int32) ≤ r_41 then
          qnm (x4 + 1) fun (x_45 : Int32) =>
          fL_drawn_L143 L xs k w_42 x2 x_45
        else
          none
      else none
set_option maxHeartbeats 4000000 in
set_option maxRecDepth 100000 in
theorem mL_drawn_L143 {p : Program} {l : Launch} {e : Env} {s : State} {m : MethodId} {args : Array Value} {below : List Frame} {meth : Method} {c : Code} {D : va_G} {G : Nat → ClassId} {ad : Nat → Nat} {b0 : Nat} {ad0 : Nat → Nat} {L : Nat} {xs : Nat → Int32} {wF : qMem} (hst : l.stackTraces = false) (hC : lCx p c cL_drawn 9 s m args meth RL D G ad (lX [] [] [])) (hr : meth.sig.returnType = some (.object "QuakeRehearsal")) (hE : (lSA b0 L xs ad ad0) (lA ad (lX [] [] []) s.heap.size) s s.heap) : ∀ (k : Nat), ∀ (w : qMem) (x2 : Int32) (x4 : Int32) (cc cs : Nat) (H : Heap) (locs : List Loc) (ls : Array Slot), fL_drawn_L143 L xs k w x2 x4 = some wF → lR D (lX [] [] []) (lX (qcells G ad w) [] []) s H locs → lv_has ls 9 [(0, .ref b0), (1, .ref (ad 228)), (2, .int x2), (4, .int x4)] → cc + 3 * k + 7 ≤ 293 → cs + 18 * k + 42 ≤ 2142 → W p l e (qrm 11 293 2142) s m args below meth c H locs cc cs (MQ below (lQo D G ad0 wF s) args s 293 2142 (va_A (lX [] [] []) s.heap.size)) (F0 m 143 ls []) := by
  have hx := hC.1
  have hb := hC.2.1
  have hJ := hC.2.2.2.2.2.2.2.1
  intro k
  induction k with
  | zero => intro w x2 x4 cc cs H locs ls hf; exact nomatch (show (none : Option (qMem)) = some _ from hf)
  | succ k ih =>
    intro w x2 x4 cc cs H locs ls hf hR hl hcM hsM
    rw [fL_drawn_L143] at hf
    refine lv_iload hx hb dL_drawn_143 (lv_at hl 3 rfl) ?_
    refine lv_iconst (v := 3) hx hb dL_drawn_145 (by decide) ?_
    refine lv_icmp_ge (tgt := 205) hx hb dL_drawn_146 (by decide) (fun c__6 => ?_) (fun c__6 => ?_)
    · have hf := qif_t hf c__6
      refine lv_aload_n hx hb dL_drawn_205 rfl (lv_at hl 1 rfl) ?_
      refine lv_iconst (v := 1) hx hb dL_drawn_206 (by decide) ?_
      refine lv_iload_n hx hb dL_drawn_207 rfl (lv_at hl 2 rfl) ?_
      refine lv_iconst (v := 4) hx hb dL_drawn_208 (by decide) ?_
      refine lv_iushr hx hb dL_drawn_209 rfl ?_
      refine lv_bipush (v := 9) hx hb dL_drawn_210 (by decide) ?_
      refine lv_irem hx hb dL_drawn_212 (by decide) ?_
      refine lv_iadd hx hb dL_drawn_213 ?_
      obtain ⟨r_7, w_8, hq_9, hf⟩ := qbd2_s hf
      refine l_callSWi hC hR (l_ofHW hJ (mL_set hJ hst hq_9)) lNo_k trivial lp_C lp_C.symm qkl_615 qkl_616 qkl_18 qkl_617 qhd_L_set ⟨Nat.le_of_ble_eq_true rfl, Nat.le_of_ble_eq_true rfl⟩ hl.1 rfl (Nat.le_of_ble_eq_true rfl) dL_drawn_214 ⟨by show _ ≤ 293; omega, by show _ ≤ 2142; omega⟩ (fun H locs hR hk => ?_)
      refine lv_if_ge (tgt := 231) hx hb dL_drawn_217 (by decide) (fun c__10 => ?_) (fun c__10 => ?_)
      · have hf := qif_t hf c__10
        refine lv_iconst (v := 0) hx hb dL_drawn_231 (by decide) ?_
        refine lv_istore (lv' := [(4, .int 0), (0, .ref b0), (1, .ref (ad 228)), (2, .int x2)]) hx hb dL_drawn_232 hl (by decide) rfl (fun ls hl => ?_)
        exact mL_drawn_L234 hst hC hr hE 4 _ _ _ _ _ _ _ _ hf hR (lv_sub hl [2, 3, 0] rfl) (by omega) (by omega)
      · have hf := qif_f hf c__10
        refine lv_aload_n hx hb dL_drawn_220 rfl (lv_at hl 1 rfl) ?_
        refine lv_iconst (v := 0) hx hb dL_drawn_221 (by decide) ?_
        obtain ⟨r_23, w_24, hq_25, hf⟩ := qbd2_s hf
        refine l_callSWi hC hR (l_ofHW hJ (mL_refusal hJ hst hq_25)) lNo_k trivial lp_C lp_C.symm qkl_545 qkl_546 qkl_18 qkl_547 qhd_L_refusal ⟨Nat.le_of_ble_eq_true rfl, Nat.le_of_ble_eq_true rfl⟩ hl.1 rfl (Nat.le_of_ble_eq_true rfl) dL_drawn_222 ⟨by show _ ≤ 293; omega, by show _ ≤ 2142; omega⟩ (fun H locs hR hk => ?_)
        refine lv_iconst (v := 3) hx hb dL_drawn_225 (by decide) ?_
        refine lv_icmp_eq (tgt := 231) hx hb dL_drawn_226 (by decide) (fun c__26 => ?_) (fun c__26 => ?_)
        · have hf := qif_t hf c__26
          refine lv_iconst (v := 0) hx hb dL_drawn_231 (by decide) ?_
          refine lv_istore (lv' := [(4, .int 0), (0, .ref b0), (1, .ref (ad 228)), (2, .int x2)]) hx hb dL_drawn_232 hl (by decide) rfl (fun ls hl => ?_)
          exact mL_drawn_L234 hst hC hr hE 4 _ _ _ _ _ _ _ _ hf hR (lv_sub hl [2, 3, 0] rfl) (by omega) (by omega)
        · have hf := qif_f hf c__26
          exact nomatch hf
    · have hf := qif_f hf c__6
      refine lv_aload_n hx hb dL_drawn_149 rfl (lv_at hl 0 rfl) ?_
      refine lv_bipush (v := 13) hx hb dL_drawn_150 (by decide) ?_
      refine lv_iload hx hb dL_drawn_152 (lv_at hl 3 rfl) ?_
      refine lv_iadd hx hb dL_drawn_154 ?_
      obtain ⟨r_28, hq_27, hf⟩ := qbd_s hf
      refine l_callSi hC hR (mL_cell hJ hst hq_27) lSc_k (l_now lSc_k hR hE.1) lp_0 lp_0.symm qkl_260 qkl_261 qkl_18 qkl_262 qhd_L_cell ⟨Nat.le_of_ble_eq_true rfl, Nat.le_of_ble_eq_true rfl⟩ hl.1 rfl (Nat.le_of_ble_eq_true rfl) dL_drawn_155 ⟨by show _ ≤ 293; omega, by show _ ≤ 2142; omega⟩ (fun H locs hR hk => ?_)
      refine lv_iconst (v := 1) hx hb dL_drawn_158 (by decide) ?_
      refine lv_iushr hx hb dL_drawn_159 rfl ?_
      refine lv_topi (fun x_29 ex_29 => ?_)
      have hf := qnm_t hf ex_29
      refine lv_istore (lv' := [(5, .int x_29), (0, .ref b0), (1, .ref (ad 228)), (2, .int x2), (4, .int x4)]) hx hb dL_drawn_160 hl (by decide) rfl (fun ls hl => ?_)
      refine lv_aload_n hx hb dL_drawn_162 rfl (lv_at hl 2 rfl) ?_
      refine lv_iload hx hb dL_drawn_163 (lv_at hl 0 rfl) ?_
      refine lv_aload_n hx hb dL_drawn_165 rfl (lv_at hl 2 rfl) ?_
      refine lv_iconst (v := 0) hx hb dL_drawn_166 (by decide) ?_
      obtain ⟨k_32, r_31, w_33, hq_30, hf⟩ := qbd3_s hf
      obtain ⟨h_34, hf⟩ := qgd hf
      refine l_callVi hC hR (l_ofXi hJ (mX5_account hJ hst hq_30) h_34) lNo_k trivial lp_C lp_C.symm (l_recv hC hR (lX_mc (k := 228) (by decide)) rfl) qkl_535 qk_536 qk_537 qk_19 qk_538 qhd_X5_account ⟨Nat.le_of_ble_eq_true rfl, Nat.le_of_ble_eq_true rfl⟩ hl.1 rfl (Nat.le_of_ble_eq_true rfl) dL_drawn_167 ⟨by show _ ≤ 293; omega, by show _ ≤ 2142; omega⟩ (fun H locs hR hk => ?_)
      obtain ⟨g_35, hf⟩ := qgdn hf
      refine lv_irem hx hb dL_drawn_170 g_35 ?_
      refine lv_iload hx hb dL_drawn_171 (lv_at hl 0 rfl) ?_
      refine lv_iconst (v := 4) hx hb dL_drawn_173 (by decide) ?_
      refine lv_iushr hx hb dL_drawn_174 rfl ?_
      refine lv_bipush (v := 10) hx hb dL_drawn_175 (by decide) ?_
      refine lv_irem hx hb dL_drawn_177 (by decide) ?_
      obtain ⟨r_36, w_37, hq_38, hf⟩ := qbd2_s hf
      refine l_callSWi hC hR (l_ofHW hJ (mL_cue hJ hst hq_38)) lNo_k trivial lp_C lp_C.symm qkl_569 qkl_570 qkl_18 qkl_571 qhd_L_cue ⟨Nat.le_of_ble_eq_true rfl, Nat.le_of_ble_eq_true rfl⟩ hl.1 rfl (Nat.le_of_ble_eq_true rfl) dL_drawn_178 ⟨by show _ ≤ 293; omega, by show _ ≤ 2142; omega⟩ (fun H locs hR hk => ?_)
      refine lv_istore (lv' := [(6, .int r_36), (5, .int x_29), (0, .ref b0), (1, .ref (ad 228)), (2, .int x2), (4, .int x4)]) hx hb dL_drawn_181 hl (by decide) rfl (fun ls hl => ?_)
      refine lv_iload hx hb dL_drawn_183 (lv_at hl 0 rfl) ?_
      refine lv_if_ge (tgt := 199) hx hb dL_drawn_185 (by decide) (fun c__39 => ?_) (fun c__39 => ?_)
      · have hf := qif_t hf c__39
        obtain ⟨x_40, ex_40⟩ : ∃ y : Int32, y = x4 + 1 := ⟨_, rfl⟩
        have hf := qnm_t hf ex_40
        refine lv_iinc (v := x_40) (lv' := [(4, .int x_40), (6, .int r_36), (5, .int x_29), (0, .ref b0), (1, .ref (ad 228)), (2, .int x2)]) hx hb dL_drawn_199 hl (k := 5) rfl (by rw [ex_40]; rfl) (by decide) rfl (fun ls hl => ?_)
        refine lv_goto (tgt := 143) hx hb dL_drawn_202 (by decide) ?_
        exact ih _ _ _ _ _ _ _ _ hf hR (lv_sub hl [3, 4, 5, 0] rfl) (by omega) (by omega)
      · have hf := qif_f hf c__39
        refine lv_aload_n hx hb dL_drawn_188 rfl (lv_at hl 3 rfl) ?_
        refine lv_iconst (v := 0) hx hb dL_drawn_189 (by decide) ?_
        obtain ⟨r_41, w_42, hq_43, hf⟩ := qbd2_s hf
        refine l_callSWi hC hR (l_ofHW hJ (mL_refusal hJ hst hq_43)) lNo_k trivial lp_C lp_C.symm qkl_545 qkl_546 qkl_18 qkl_547 qhd_L_refusal ⟨Nat.le_of_ble_eq_true rfl, Nat.le_of_ble_eq_true rfl⟩ hl.1 rfl (Nat.le_of_ble_eq_true rfl) dL_drawn_190 ⟨by show _ ≤ 293; omega, by show _ ≤ 2142; omega⟩ (fun H locs hR hk => ?_)
        refine lv_iconst (v := 3) hx hb dL_drawn_193 (by decide) ?_
        refine lv_icmp_ge (tgt := 199) hx hb dL_drawn_194 (by decide) (fun c__44 => ?_) (fun c__44 => ?_)
        · have hf := qif_t hf c__44
          obtain ⟨x_45, ex_45⟩ : ∃ y : Int32, y = x4 + 1 := ⟨_, rfl⟩
          have hf := qnm_t hf ex_45
          refine lv_iinc (v := x_45) (lv' := [(4, .int x_45), (6, .int r_36), (5, .int x_29), (0, .ref b0), (1, .ref (ad 228)), (2, .int x2)]) hx hb dL_drawn_199 hl (k := 5) rfl (by rw [ex_45]; rfl) (by decide) rfl (fun ls hl => ?_)
          refine lv_goto (tgt := 143) hx hb dL_drawn_202 (by decide) ?_
          exact ih _ _ _ _ _ _ _ _ hf hR (lv_sub hl [3, 4, 5, 0] rfl) (by omega) (by omega)
        · have hf := qif_f hf c__44
          exact nomatch hf
def fL_drawn_L109 (L : Nat) (xs : Nat → Int32) (k26 : (qMem → Int32 → Int32 → Int32 → Option (qMem))) (w : qMem) (x2 : Int32) (x3 : Int32) (x4 : Int32) (s0 : Int32) : Option (qMem) :=
  qbd3 (fX5_account w 0) fun (k_58 : Nat) (r_57 : Int32) (w_59 : qMem) =>
  if k_58 = 0 then
  if s0 = r_57 - 1 then
    qnm (x4 + 1) fun (x_62 : Int32) =>
    k26 w_59 x2 x3 x_62
  else
    qbd2 (fL_refusal w_59 0) fun (r_63 : Int32) (w_64 : qMem) =>
    if r_63 = 2 then
      qnm (x4 + 1) fun (x_67 : Int32) =>
      k26 w_64 x2 x3 x_67
    else
      none
  else none
set_option maxHeartbeats 4000000 in
set_option maxRecDepth 100000 in
theorem mL_drawn_L109 {p : Program} {l : Launch} {e : Env} {s : State} {m : MethodId} {args : Array Value} {below : List Frame} {meth : Method} {c : Code} {D : va_G} {G : Nat → ClassId} {ad : Nat → Nat} {b0 : Nat} {ad0 : Nat → Nat} {L : Nat} {xs : Nat → Int32} {wF : qMem} {k26 : (qMem → Int32 → Int32 → Int32 → Option (qMem))} {B S : Nat} (hBM : B ≤ 293) (hSM : S ≤ 2142) (hst : l.stackTraces = false) (hC : lCx p c cL_drawn 9 s m args meth RL D G ad (lX [] [] [])) (hr : meth.sig.returnType = some (.object "QuakeRehearsal")) (hE : (lSA b0 L xs ad ad0) (lA ad (lX [] [] []) s.heap.size) s s.heap) (hk26 : ∀ (w : qMem) (x2 : Int32) (x3 : Int32) (x4 : Int32) (cc cs : Nat) (H : Heap) (locs : List Loc) (ls : Array Slot), k26 w x2 x3 x4 = some wF → lR D (lX [] [] []) (lX (qcells G ad w) [] []) s H locs → lv_has ls 9 [(0, .ref b0), (1, .ref (ad 228)), (2, .int x2), (3, .int x3), (4, .int x4)] → cc ≤ B → cs ≤ S → W p l e (qrm 11 293 2142) s m args below meth c H locs cc cs (MQ below (lQo D G ad0 wF s) args s 293 2142 (va_A (lX [] [] []) s.heap.size)) (F0 m 26 ls [])) : ∀ (w : qMem) (x2 : Int32) (x3 : Int32) (x4 : Int32) (s0 : Int32) (cc cs : Nat) (H : Heap) (locs : List Loc) (ls : Array Slot), fL_drawn_L109 L xs k26 w x2 x3 x4 s0 = some wF → lR D (lX [] [] []) (lX (qcells G ad w) [] []) s H locs → lv_has ls 9 [(0, .ref b0), (1, .ref (ad 228)), (2, .int x2), (3, .int x3), (4, .int x4)] → cc + 2 ≤ B → cs + 12 ≤ S → cc ≤ 293 → cs ≤ 2142 → W p l e (qrm 11 293 2142) s m args below meth c H locs cc cs (MQ below (lQo D G ad0 wF s) args s 293 2142 (va_A (lX [] [] []) s.heap.size)) (F0 m 109 ls [.int s0]) := by
  have hx := hC.1
  have hb := hC.2.1
  have hJ := hC.2.2.2.2.2.2.2.1
  intro w x2 x3 x4 s0 cc cs H locs ls hf hR hl hcB hsB hcM hsM
  unfold fL_drawn_L109 at hf
  refine lv_istore (lv' := [(8, .int s0), (0, .ref b0), (1, .ref (ad 228)), (2, .int x2), (3, .int x3), (4, .int x4)]) hx hb dL_drawn_109 hl (by decide) rfl (fun ls hl => ?_)
  refine lv_iload hx hb dL_drawn_111 (lv_at hl 0 rfl) ?_
  refine lv_aload_n hx hb dL_drawn_113 rfl (lv_at hl 2 rfl) ?_
  refine lv_iconst (v := 0) hx hb dL_drawn_114 (by decide) ?_
  obtain ⟨k_58, r_57, w_59, hq_56, hf⟩ := qbd3_s hf
  obtain ⟨h_60, hf⟩ := qgd hf
  refine l_callVi hC hR (l_ofXi hJ (mX5_account hJ hst hq_56) h_60) lNo_k trivial lp_C lp_C.symm (l_recv hC hR (lX_mc (k := 228) (by decide)) rfl) qkl_535 qk_536 qk_537 qk_19 qk_538 qhd_X5_account ⟨Nat.le_of_ble_eq_true rfl, Nat.le_of_ble_eq_true rfl⟩ hl.1 rfl (Nat.le_of_ble_eq_true rfl) dL_drawn_115 ⟨by show _ ≤ 293; omega, by show _ ≤ 2142; omega⟩ (fun H locs hR hk => ?_)
  refine lv_iconst (v := 1) hx hb dL_drawn_118 (by decide) ?_
  refine lv_isub hx hb dL_drawn_119 ?_
  refine lv_icmp_eq (tgt := 134) hx hb dL_drawn_120 (by decide) (fun c__61 => ?_) (fun c__61 => ?_)
  · have hf := qif_t hf c__61
    obtain ⟨x_62, ex_62⟩ : ∃ y : Int32, y = x4 + 1 := ⟨_, rfl⟩
    have hf := qnm_t hf ex_62
    refine lv_iinc (v := x_62) (lv' := [(4, .int x_62), (8, .int s0), (0, .ref b0), (1, .ref (ad 228)), (2, .int x2), (3, .int x3)]) hx hb dL_drawn_134 hl (k := 5) rfl (by rw [ex_62]; rfl) (by decide) rfl (fun ls hl => ?_)
    refine lv_goto (tgt := 26) hx hb dL_drawn_137 (by decide) ?_
    exact hk26 _ _ _ _ _ _ _ _ _ hf hR (lv_sub hl [2, 3, 4, 5, 0] rfl) (by omega) (by omega)
  · have hf := qif_f hf c__61
    refine lv_aload_n hx hb dL_drawn_123 rfl (lv_at hl 2 rfl) ?_
    refine lv_iconst (v := 0) hx hb dL_drawn_124 (by decide) ?_
    obtain ⟨r_63, w_64, hq_65, hf⟩ := qbd2_s hf
    refine l_callSWi hC hR (l_ofHW hJ (mL_refusal hJ hst hq_65)) lNo_k trivial lp_C lp_C.symm qkl_545 qkl_546 qkl_18 qkl_547 qhd_L_refusal ⟨Nat.le_of_ble_eq_true rfl, Nat.le_of_ble_eq_true rfl⟩ hl.1 rfl (Nat.le_of_ble_eq_true rfl) dL_drawn_125 ⟨by show _ ≤ 293; omega, by show _ ≤ 2142; omega⟩ (fun H locs hR hk => ?_)
    refine lv_iconst (v := 2) hx hb dL_drawn_128 (by decide) ?_
    refine lv_icmp_eq (tgt := 134) hx hb dL_drawn_129 (by decide) (fun c__66 => ?_) (fun c__66 => ?_)
    · have hf := qif_t hf c__66
      obtain ⟨x_67, ex_67⟩ : ∃ y : Int32, y = x4 + 1 := ⟨_, rfl⟩
      have hf := qnm_t hf ex_67
      refine lv_iinc (v := x_67) (lv' := [(4, .int x_67), (8, .int s0), (0, .ref b0), (1, .ref (ad 228)), (2, .int x2), (3, .int x3)]) hx hb dL_drawn_134 hl (k := 5) rfl (by rw [ex_67]; rfl) (by decide) rfl (fun ls hl => ?_)
      refine lv_goto (tgt := 26) hx hb dL_drawn_137 (by decide) ?_
      exact hk26 _ _ _ _ _ _ _ _ _ hf hR (lv_sub hl [2, 3, 4, 5, 0] rfl) (by omega) (by omega)
    · have hf := qif_f hf c__66
      exact nomatch hf
def fL_drawn_L26 (L : Nat) (xs : Nat → Int32)  : Nat → qMem → Int32 → Int32 → Int32 → Option (qMem)
  | 0, _, _, _, _ => none
  | k + 1, w, x2, x3, x4 =>
    if x3 ≤ x4 then
      fL_drawn_L143 L xs 4 w x2 0
    else
      qbd (fL_cell L xs ((1 : Int32) + x4)) fun (r_47 : Int32) =>
      qnm ((r_47.toUInt32 >>> (Int32.toUInt32 1 &&& Int32.toUInt32 31)).toInt32) fun (x_48 : Int32) =>
      qnm (((x_48.toUInt32 >>> (Int32.toUInt32 3 &&& Int32.toUInt32 31)).toInt32) - ((x_48.toUInt32 >>> (Int32.toUInt32 3 &&& Int32.toUInt32 31)).toInt32) / 5 * 5) fun (x_49 : Int32) =>
      qnm ((1 : Int32) + (((x_48.toUInt32 >>> (Int32.toUInt32 6 &&& Int32.toUInt32 31)).toInt32) - ((x_48.toUInt32 >>> (Int32.toUInt32 6 &&& Int32.toUInt32 31)).toInt32) / 9 * 9)) fun (x_50 : Int32) =>
      if x_48 - x_48 / 3 * 3 = 0 then
        qbd2 (fL_cup w x_49 x_50) fun (r_71 : Int32) (w_72 : qMem) =>
        fL_drawn_L109 L xs (fL_drawn_L26 L xs k) w_72 x2 x3 x4 r_71
      else
        if x_48 - x_48 / 3 * 3 = 1 then
          qbd2 (fL_lamp w x_49 x_50) fun (r_68 : Int32) (w_69 : qMem) =>
          fL_drawn_L109 L xs (fL_drawn_L26 L xs k) w_69 x2 x3 x4 r_68
        else
          qbd2 (fL_cat w x_49 x_50) fun (r_53 : Int32) (w_54 : qMem) =>
          fL_drawn_L109 L xs (fL_drawn_L26 L xs k) w_54 x2 x3 x4 r_53
set_option maxHeartbeats 4000000 in
set_option maxRecDepth 100000 in
theorem mL_drawn_L26 {p : Program} {l : Launch} {e : Env} {s : State} {m : MethodId} {args : Array Value} {below : List Frame} {meth : Method} {c : Code} {D : va_G} {G : Nat → ClassId} {ad : Nat → Nat} {b0 : Nat} {ad0 : Nat → Nat} {L : Nat} {xs : Nat → Int32} {wF : qMem} (hst : l.stackTraces = false) (hC : lCx p c cL_drawn 9 s m args meth RL D G ad (lX [] [] [])) (hr : meth.sig.returnType = some (.object "QuakeRehearsal")) (hE : (lSA b0 L xs ad ad0) (lA ad (lX [] [] []) s.heap.size) s s.heap) : ∀ (k : Nat), ∀ (w : qMem) (x2 : Int32) (x3 : Int32) (x4 : Int32) (cc cs : Nat) (H : Heap) (locs : List Loc) (ls : Array Slot), fL_drawn_L26 L xs k w x2 x3 x4 = some wF → lR D (lX [] [] []) (lX (qcells G ad w) [] []) s H locs → lv_has ls 9 [(0, .ref b0), (1, .ref (ad 228)), (2, .int x2), (3, .int x3), (4, .int x4)] → cc + 3 * k + 19 ≤ 293 → cs + 18 * k + 114 ≤ 2142 → W p l e (qrm 11 293 2142) s m args below meth c H locs cc cs (MQ below (lQo D G ad0 wF s) args s 293 2142 (va_A (lX [] [] []) s.heap.size)) (F0 m 26 ls []) := by
  have hx := hC.1
  have hb := hC.2.1
  have hJ := hC.2.2.2.2.2.2.2.1
  intro k
  induction k with
  | zero => intro w x2 x3 x4 cc cs H locs ls hf; exact nomatch (show (none : Option (qMem)) = some _ from hf)
  | succ k ih =>
    intro w x2 x3 x4 cc cs H locs ls hf hR hl hcM hsM
    rw [fL_drawn_L26] at hf
    refine lv_iload hx hb dL_drawn_26 (lv_at hl 4 rfl) ?_
    refine lv_iload_n hx hb dL_drawn_28 rfl (lv_at hl 3 rfl) ?_
    refine lv_icmp_ge (tgt := 140) hx hb dL_drawn_29 (by decide) (fun c__5 => ?_) (fun c__5 => ?_)
    · have hf := qif_t hf c__5
      refine lv_iconst (v := 0) hx hb dL_drawn_140 (by decide) ?_
      refine lv_istore (lv' := [(4, .int 0), (0, .ref b0), (1, .ref (ad 228)), (2, .int x2), (3, .int x3)]) hx hb dL_drawn_141 hl (by decide) rfl (fun ls hl => ?_)
      exact mL_drawn_L143 hst hC hr hE 4 _ _ _ _ _ _ _ _ hf hR (lv_sub hl [1, 2, 3, 0] rfl) (by omega) (by omega)
    · have hf := qif_f hf c__5
      refine lv_aload_n hx hb dL_drawn_32 rfl (lv_at hl 0 rfl) ?_
      refine lv_iconst (v := 1) hx hb dL_drawn_33 (by decide) ?_
      refine lv_iload hx hb dL_drawn_34 (lv_at hl 4 rfl) ?_
      refine lv_iadd hx hb dL_drawn_36 ?_
      obtain ⟨r_47, hq_46, hf⟩ := qbd_s hf
      refine l_callSi hC hR (mL_cell hJ hst hq_46) lSc_k (l_now lSc_k hR hE.1) lp_0 lp_0.symm qkl_260 qkl_261 qkl_18 qkl_262 qhd_L_cell ⟨Nat.le_of_ble_eq_true rfl, Nat.le_of_ble_eq_true rfl⟩ hl.1 rfl (Nat.le_of_ble_eq_true rfl) dL_drawn_37 ⟨by show _ ≤ 293; omega, by show _ ≤ 2142; omega⟩ (fun H locs hR hk => ?_)
      refine lv_iconst (v := 1) hx hb dL_drawn_40 (by decide) ?_
      refine lv_iushr hx hb dL_drawn_41 rfl ?_
      refine lv_topi (fun x_48 ex_48 => ?_)
      have hf := qnm_t hf ex_48
      refine lv_istore (lv' := [(5, .int x_48), (0, .ref b0), (1, .ref (ad 228)), (2, .int x2), (3, .int x3), (4, .int x4)]) hx hb dL_drawn_42 hl (by decide) rfl (fun ls hl => ?_)
      refine lv_iload hx hb dL_drawn_44 (lv_at hl 0 rfl) ?_
      refine lv_iconst (v := 3) hx hb dL_drawn_46 (by decide) ?_
      refine lv_iushr hx hb dL_drawn_47 rfl ?_
      refine lv_iconst (v := 5) hx hb dL_drawn_48 (by decide) ?_
      refine lv_irem hx hb dL_drawn_49 (by decide) ?_
      refine lv_topi (fun x_49 ex_49 => ?_)
      have hf := qnm_t hf ex_49
      refine lv_istore (lv' := [(6, .int x_49), (5, .int x_48), (0, .ref b0), (1, .ref (ad 228)), (2, .int x2), (3, .int x3), (4, .int x4)]) hx hb dL_drawn_50 hl (by decide) rfl (fun ls hl => ?_)
      refine lv_iconst (v := 1) hx hb dL_drawn_52 (by decide) ?_
      refine lv_iload hx hb dL_drawn_53 (lv_at hl 1 rfl) ?_
      refine lv_bipush (v := 6) hx hb dL_drawn_55 (by decide) ?_
      refine lv_iushr hx hb dL_drawn_57 rfl ?_
      refine lv_bipush (v := 9) hx hb dL_drawn_58 (by decide) ?_
      refine lv_irem hx hb dL_drawn_60 (by decide) ?_
      refine lv_iadd hx hb dL_drawn_61 ?_
      refine lv_topi (fun x_50 ex_50 => ?_)
      have hf := qnm_t hf ex_50
      refine lv_istore (lv' := [(7, .int x_50), (6, .int x_49), (5, .int x_48), (0, .ref b0), (1, .ref (ad 228)), (2, .int x2), (3, .int x3), (4, .int x4)]) hx hb dL_drawn_62 hl (by decide) rfl (fun ls hl => ?_)
      refine lv_iload hx hb dL_drawn_64 (lv_at hl 2 rfl) ?_
      refine lv_iconst (v := 3) hx hb dL_drawn_66 (by decide) ?_
      refine lv_irem hx hb dL_drawn_67 (by decide) ?_
      refine lv_if_ne (tgt := 82) hx hb dL_drawn_68 (by decide) (fun c__51 => ?_) (fun c__51 => ?_)
      · have hf := qif_f hf c__51
        refine lv_iload hx hb dL_drawn_82 (lv_at hl 2 rfl) ?_
        refine lv_iconst (v := 3) hx hb dL_drawn_84 (by decide) ?_
        refine lv_irem hx hb dL_drawn_85 (by decide) ?_
        refine lv_iconst (v := 1) hx hb dL_drawn_86 (by decide) ?_
        refine lv_icmp_ne (tgt := 101) hx hb dL_drawn_87 (by decide) (fun c__52 => ?_) (fun c__52 => ?_)
        · have hf := qif_f hf c__52
          refine lv_aload_n hx hb dL_drawn_101 rfl (lv_at hl 4 rfl) ?_
          refine lv_iload hx hb dL_drawn_102 (lv_at hl 1 rfl) ?_
          refine lv_iload hx hb dL_drawn_104 (lv_at hl 0 rfl) ?_
          obtain ⟨r_53, w_54, hq_55, hf⟩ := qbd2_s hf
          refine l_callSWi hC hR (l_ofHW hJ (mL_cat hJ hst hq_55)) lNo_k trivial lp_C lp_C.symm qkl_528 qkl_529 qkl_18 qkl_530 qhd_L_cat ⟨Nat.le_of_ble_eq_true rfl, Nat.le_of_ble_eq_true rfl⟩ hl.1 rfl (Nat.le_of_ble_eq_true rfl) dL_drawn_106 ⟨by show _ ≤ 293; omega, by show _ ≤ 2142; omega⟩ (fun H locs hR hk => ?_)
          exact mL_drawn_L109 (B := cc + 3) (S := cs + 18) (by omega) (by omega) hst hC hr hE (fun y0 y1 y2 y3 cc2 cs2 H2 locs2 ls2 hf2 hR2 hl2 hc2 hs2 => ih y0 y1 y2 y3 cc2 cs2 H2 locs2 ls2 hf2 hR2 hl2 (by omega) (by omega)) _ _ _ _ _ _ _ _ _ _ hf hR (lv_sub hl [3, 4, 5, 6, 7] rfl) (by omega) (by omega) (by omega) (by omega)
        · have hf := qif_t hf c__52
          refine lv_aload_n hx hb dL_drawn_90 rfl (lv_at hl 4 rfl) ?_
          refine lv_iload hx hb dL_drawn_91 (lv_at hl 1 rfl) ?_
          refine lv_iload hx hb dL_drawn_93 (lv_at hl 0 rfl) ?_
          obtain ⟨r_68, w_69, hq_70, hf⟩ := qbd2_s hf
          refine l_callSWi hC hR (l_ofHW hJ (mL_lamp hJ hst hq_70)) lNo_k trivial lp_C lp_C.symm qkl_521 qkl_522 qkl_18 qkl_523 qhd_L_lamp ⟨Nat.le_of_ble_eq_true rfl, Nat.le_of_ble_eq_true rfl⟩ hl.1 rfl (Nat.le_of_ble_eq_true rfl) dL_drawn_95 ⟨by show _ ≤ 293; omega, by show _ ≤ 2142; omega⟩ (fun H locs hR hk => ?_)
          refine lv_goto (tgt := 109) hx hb dL_drawn_98 (by decide) ?_
          exact mL_drawn_L109 (B := cc + 3) (S := cs + 18) (by omega) (by omega) hst hC hr hE (fun y0 y1 y2 y3 cc2 cs2 H2 locs2 ls2 hf2 hR2 hl2 hc2 hs2 => ih y0 y1 y2 y3 cc2 cs2 H2 locs2 ls2 hf2 hR2 hl2 (by omega) (by omega)) _ _ _ _ _ _ _ _ _ _ hf hR (lv_sub hl [3, 4, 5, 6, 7] rfl) (by omega) (by omega) (by omega) (by omega)
      · have hf := qif_t hf c__51
        refine lv_aload_n hx hb dL_drawn_71 rfl (lv_at hl 4 rfl) ?_
        refine lv_iload hx hb dL_drawn_72 (lv_at hl 1 rfl) ?_
        refine lv_iload hx hb dL_drawn_74 (lv_at hl 0 rfl) ?_
        obtain ⟨r_71, w_72, hq_73, hf⟩ := qbd2_s hf
        refine l_callSWi hC hR (l_ofHW hJ (mL_cup hJ hst hq_73)) lNo_k trivial lp_C lp_C.symm qkl_264 qkl_265 qkl_18 qkl_266 qhd_L_cup ⟨Nat.le_of_ble_eq_true rfl, Nat.le_of_ble_eq_true rfl⟩ hl.1 rfl (Nat.le_of_ble_eq_true rfl) dL_drawn_76 ⟨by show _ ≤ 293; omega, by show _ ≤ 2142; omega⟩ (fun H locs hR hk => ?_)
        refine lv_goto (tgt := 109) hx hb dL_drawn_79 (by decide) ?_
        exact mL_drawn_L109 (B := cc + 3) (S := cs + 18) (by omega) (by omega) hst hC hr hE (fun y0 y1 y2 y3 cc2 cs2 H2 locs2 ls2 hf2 hR2 hl2 hc2 hs2 => ih y0 y1 y2 y3 cc2 cs2 H2 locs2 ls2 hf2 hR2 hl2 (by omega) (by omega)) _ _ _ _ _ _ _ _ _ _ hf hR (lv_sub hl [3, 4, 5, 6, 7] rfl) (by omega) (by omega) (by omega) (by omega)
def fL_drawn_L7 (L : Nat) (xs : Nat → Int32)  (w : qMem) : Option (qMem) :=
  qbd (fL_cell L xs 0) fun (r_2 : Int32) =>
  qnm ((r_2.toUInt32 >>> (Int32.toUInt32 1 &&& Int32.toUInt32 31)).toInt32) fun (x_3 : Int32) =>
  qnm ((3 : Int32) + (x_3 - x_3 / 9 * 9)) fun (x_4 : Int32) =>
  fL_drawn_L26 L xs 12 w x_3 x_4 0
set_option maxHeartbeats 4000000 in
set_option maxRecDepth 100000 in
theorem mL_drawn_L7 {p : Program} {l : Launch} {e : Env} {s : State} {m : MethodId} {args : Array Value} {below : List Frame} {meth : Method} {c : Code} {D : va_G} {G : Nat → ClassId} {ad : Nat → Nat} {b0 : Nat} {ad0 : Nat → Nat} {L : Nat} {xs : Nat → Int32} {wF : qMem} (hst : l.stackTraces = false) (hC : lCx p c cL_drawn 9 s m args meth RL D G ad (lX [] [] [])) (hr : meth.sig.returnType = some (.object "QuakeRehearsal")) (hE : (lSA b0 L xs ad ad0) (lA ad (lX [] [] []) s.heap.size) s s.heap) : ∀ (w : qMem) (cc cs : Nat) (H : Heap) (locs : List Loc) (ls : Array Slot), fL_drawn_L7 L xs w = some wF → lR D (lX [] [] []) (lX (qcells G ad w) [] []) s H locs → lv_has ls 9 [(0, .ref b0)] → cc + 55 ≤ 293 → cs + 330 ≤ 2142 → W p l e (qrm 11 293 2142) s m args below meth c H locs cc cs (MQ below (lQo D G ad0 wF s) args s 293 2142 (va_A (lX [] [] []) s.heap.size)) (F0 m 7 ls [.ref (ad 228)]) := by
  have hx := hC.1
  have hb := hC.2.1
  have hJ := hC.2.2.2.2.2.2.2.1
  intro w cc cs H locs ls hf hR hl hcM hsM
  unfold fL_drawn_L7 at hf
  refine lv_astore_n (lv' := [(1, .ref (ad 228)), (0, .ref b0)]) hx hb dL_drawn_7 rfl hl (by decide) rfl (fun ls hl => ?_)
  refine lv_aload_n hx hb dL_drawn_8 rfl (lv_at hl 1 rfl) ?_
  refine lv_iconst (v := 0) hx hb dL_drawn_9 (by decide) ?_
  obtain ⟨r_2, hq_1, hf⟩ := qbd_s hf
  refine l_callSi hC hR (mL_cell hJ hst hq_1) lSc_k (l_now lSc_k hR hE.1) lp_0 lp_0.symm qkl_260 qkl_261 qkl_18 qkl_262 qhd_L_cell ⟨Nat.le_of_ble_eq_true rfl, Nat.le_of_ble_eq_true rfl⟩ hl.1 rfl (Nat.le_of_ble_eq_true rfl) dL_drawn_10 ⟨by show _ ≤ 293; omega, by show _ ≤ 2142; omega⟩ (fun H locs hR hk => ?_)
  refine lv_iconst (v := 1) hx hb dL_drawn_13 (by decide) ?_
  refine lv_iushr hx hb dL_drawn_14 rfl ?_
  refine lv_topi (fun x_3 ex_3 => ?_)
  have hf := qnm_t hf ex_3
  refine lv_istore_n (lv' := [(2, .int x_3), (1, .ref (ad 228)), (0, .ref b0)]) hx hb dL_drawn_15 rfl hl (by decide) rfl (fun ls hl => ?_)
  refine lv_iconst (v := 3) hx hb dL_drawn_16 (by decide) ?_
  refine lv_iload_n hx hb dL_drawn_17 rfl (lv_at hl 0 rfl) ?_
  refine lv_bipush (v := 9) hx hb dL_drawn_18 (by decide) ?_
  refine lv_irem hx hb dL_drawn_20 (by decide) ?_
  refine lv_iadd hx hb dL_drawn_21 ?_
  refine lv_topi (fun x_4 ex_4 => ?_)
  have hf := qnm_t hf ex_4
  refine lv_istore_n (lv' := [(3, .int x_4), (2, .int x_3), (1, .ref (ad 228)), (0, .ref b0)]) hx hb dL_drawn_22 rfl hl (by decide) rfl (fun ls hl => ?_)
  refine lv_iconst (v := 0) hx hb dL_drawn_23 (by decide) ?_
  refine lv_istore (lv' := [(4, .int 0), (3, .int x_4), (2, .int x_3), (1, .ref (ad 228)), (0, .ref b0)]) hx hb dL_drawn_24 hl (by decide) rfl (fun ls hl => ?_)
  exact mL_drawn_L26 hst hC hr hE 12 _ _ _ _ _ _ _ _ _ hf hR (lv_sub hl [4, 3, 2, 1, 0] rfl) (by omega) (by omega)
def fL_drawn (L : Nat) (xs : Nat → Int32) : Option qMem := fL_drawn_L7 L xs qw0

