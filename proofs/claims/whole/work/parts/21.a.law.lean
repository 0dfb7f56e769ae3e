def qs_0 (w : qMem) (a1 a2 a3 : Int32) : Option qMem :=
  qbdn (fL_cup w a1 a2) fun (k2 : Int32) (r1 : Int32) (w3 : qMem) =>
  qbd2 (fX6_cup w3 a1 a2) fun (b7 : Int32) (w9 : qMem) =>
  qbd (fX6_thrown w9) fun (b10 : Int32) =>
  if b10 = k2 then
  if k2 = 0 then
    if r1 = b7 then
    some w9
    else none
  else
    some w9
  else none

set_option maxHeartbeats 4000000 in
set_option maxRecDepth 100000 in
theorem law_0 {p : Program} {l : Launch} {e : Env} {s : State} {m : MethodId} {args : Array Value} {below : List Frame} {meth : Method} {c0 : Code} {Q : State → Prop} {D : va_G} {G : Nat → ClassId} {ad : Nat → Nat} {b L o oD : Nat} {xs : Nat → Int32} {cl cd : ClassId} (hW : qLw p l s m args meth c0 D G ad b L o oD xs) {w wF : qMem} {i : Nat} (hi : i + 3 < L) {H : Heap} {locs : List Loc} {ls : Array Slot} {cc cs : Nat} {f0 : Nat → Int64} {g0 : Nat → UInt64} (hR : qRp D G ad s w H locs) (hO : qOut o cl .long (1, .inr (.inl f0)) (qAdr ad H.size) s H) (hOD : qOut oD cd .double (1, .inr (.inr (.inr (.inl g0)))) (qAdr ad H.size) s H) (hl : lv_has ls 9 (qlvs b o oD i ad)) (hf : qs_0 w (xs (i + 1)) (xs (i + 2)) (xs (i + 3)) = some wF) (hcc : cc + 320 ≤ room_1.cells) (hcs : cs + 2000 ≤ room_1.slots) (kk : ∀ (H : Heap) (locs : List Loc) (ls : Array Slot) (f0 : Nat → Int64) (g0 : Nat → UInt64) (cc1 cs1 : Nat), cc1 ≤ cc + 320 → cs1 ≤ cs + 2000 → qRp D G ad s wF H locs → qOut o cl .long (1, .inr (.inl f0)) (qAdr ad H.size) s H → qOut oD cd .double (1, .inr (.inr (.inr (.inl g0)))) (qAdr ad H.size) s H → lv_has ls 9 (qlvs b o oD i ad) → W p l e room_1 s m args below meth c0 H locs cc1 cs1 Q (F0 m 2120 ls [])) : W p l e room_1 s m args below meth c0 H locs cc cs Q (F0 m 212 ls []) := by
  obtain ⟨hC, hst, hX, hbl, hbA, hL, ho, hoD, hne⟩ := hW
  have hx := hC.1
  have hb := hC.2.1
  have hl : lv_has ls 9 [(0, .ref b), (1, .ref (ad 228)), (2, .ref (ad 238)), (3, .ref o), (4, .ref oD), (5, .int (nI i))] := hl
  unfold qs_0 at hf
  refine lv_aload_n hx hb dL_law_212 rfl (lv_at hl 1 rfl) ?_
  refine lv_aload_n hx hb dL_law_213 rfl (lv_at hl 0 rfl) ?_
  refine lv_iload hx hb dL_law_214 (lv_at hl 5 rfl) ?_
  refine lv_iconst (v := 1) hx hb dL_law_216 (by decide) ?_
  refine lv_iadd hx hb dL_law_217 ?_
  rw [show nI i + 1 = nI (i + 1) from nI_add i 1]
  refine va_sld hx hb hX hbl hbA hR.2 (vp_in_nI (by omega) (by omega)) dL_law_218 ?_
  rw [nI_clamp (by omega)]
  refine lv_aload_n hx hb dL_law_219 rfl (lv_at hl 0 rfl) ?_
  refine lv_iload hx hb dL_law_220 (lv_at hl 5 rfl) ?_
  refine lv_iconst (v := 2) hx hb dL_law_222 (by decide) ?_
  refine lv_iadd hx hb dL_law_223 ?_
  rw [show nI i + 2 = nI (i + 2) from nI_add i 2]
  refine va_sld hx hb hX hbl hbA hR.2 (vp_in_nI (by omega) (by omega)) dL_law_224 ?_
  rw [nI_clamp (by omega)]
  refine lv_aload_n hx hb dL_law_225 rfl (lv_at hl 3 rfl) ?_
  obtain ⟨k2, r1, w3, hq4, hf⟩ := qbdn_s hf
  refine q_callL (As := [.ref (ad 228), .int (xs (i + 1)), .int (xs (i + 2)), .ref o]) (rest := []) hC hR (mL_cup (qJ hC) hst hq4) hO ho qk_542 qk_543 qk_57 qkl_544 qhd_L_cup ⟨Nat.le_of_ble_eq_true rfl, Nat.le_of_ble_eq_true rfl⟩ hl.1 rfl (Nat.le_of_ble_eq_true rfl) dL_law_226 ⟨by show _ ≤ room_1.cells; omega, by show _ ≤ room_1.slots; omega⟩ (fun _ H locs hPA hz hk hO1 hR => ?_)
  have hOD := qOut_on2 hOD hne hz hk
  obtain ⟨f5, rfl, e6⟩ := hPA
  have hO := hO1
  refine lv_istore (lv' := [(6, .int k2), (0, .ref b), (1, .ref (ad 228)), (2, .ref (ad 238)), (3, .ref o), (4, .ref oD), (5, .int (nI i))]) hx hb dL_law_229 hl (by decide) rfl (fun ls hl => ?_)
  refine lv_aload_n hx hb dL_law_231 rfl (lv_at hl 3 rfl) ?_
  refine lv_aload_n hx hb dL_law_232 rfl (lv_at hl 1 rfl) ?_
  refine lv_iload hx hb dL_law_233 (lv_at hl 6 rfl) ?_
  refine lv_iconst (v := 1) hx hb dL_law_235 (by decide) ?_
  refine lv_iadd hx hb dL_law_236 ?_
  rw [show nI i + 1 = nI (i + 1) from nI_add i 1]
  refine va_sld hx hb hX hbl hbA hR.2 (vp_in_nI (by omega) (by omega)) dL_law_237 ?_
  rw [nI_clamp (by omega)]
  refine lv_aload_n hx hb dL_law_238 rfl (lv_at hl 1 rfl) ?_
  refine lv_iload hx hb dL_law_239 (lv_at hl 6 rfl) ?_
  refine lv_iconst (v := 2) hx hb dL_law_241 (by decide) ?_
  refine lv_iadd hx hb dL_law_242 ?_
  rw [show nI i + 2 = nI (i + 2) from nI_add i 2]
  refine va_sld hx hb hX hbl hbA hR.2 (vp_in_nI (by omega) (by omega)) dL_law_243 ?_
  rw [nI_clamp (by omega)]
  obtain ⟨b7, w9, hq8, hf⟩ := qbd2_s hf
  refine q_ki (As := [.int (xs (i + 1)), .int (xs (i + 2))]) (rest := []) hC hR (mX6_cup (qJ hC) hq8) (by decide) (qsh_238 G ad _) rfl qk_1197 qk_1198 qk_1199 qk_64 qk_1200 qhd_X6_cup ⟨Nat.le_of_ble_eq_true rfl, Nat.le_of_ble_eq_true rfl⟩ hl.1 rfl (Nat.le_of_ble_eq_true rfl) dL_law_244 ⟨by show _ ≤ room_1.cells; omega, by show _ ≤ room_1.slots; omega⟩ (fun H locs hz hk hR => ?_)
  have hO := qX_on qOut_k hO hz hk
  have hOD := qX_on qOut_k hOD hz hk
  refine lv_istore (lv' := [(7, .int b7), (6, .int k2), (0, .ref b), (1, .ref (ad 228)), (2, .ref (ad 238)), (3, .ref o), (4, .ref oD), (5, .int (nI i))]) hx hb dL_law_247 hl (by decide) rfl (fun ls hl => ?_)
  refine lv_aload_n hx hb dL_law_249 rfl (lv_at hl 4 rfl) ?_
  obtain ⟨b10, hq11, hf⟩ := qbd_s hf
  refine q_ki (As := []) (rest := []) hC hR (mX6_thrown (qJ hC) hq11) (by decide) (qsh_238 G ad _) rfl qk_1189 qk_1190 qk_1191 qk_64 qk_1192 qhd_X6_thrown ⟨Nat.le_of_ble_eq_true rfl, Nat.le_of_ble_eq_true rfl⟩ hl.1 rfl (Nat.le_of_ble_eq_true rfl) dL_law_250 ⟨by show _ ≤ room_1.cells; omega, by show _ ≤ room_1.slots; omega⟩ (fun H locs hz hk hR => ?_)
  have hO := qX_on qOut_k hO hz hk
  have hOD := qX_on qOut_k hOD hz hk
  refine lv_iload hx hb dL_law_253 (lv_at hl 1 rfl) ?_
  obtain ⟨g12, hf⟩ := qgd hf
  refine lv_icmp_eq (tgt := 260) hx hb dL_law_255 (by decide) (fun _ => ?_) (fun c_1 => absurd g12 c_1)
  refine lv_iload hx hb dL_law_260 (lv_at hl 1 rfl) ?_
  refine lv_if_ne (tgt := 277) hx hb dL_law_262 (by decide) (fun c13 => ?_) (fun c13 => ?_)
  · have hf := qif_f hf c13
    refine lv_goto (tgt := 2120) hx hb dL_law_277 (by decide) ?_
    have hwe := qso hf
    subst hwe
    exact kk _ _ _ _ _ _ _ (by omega) (by omega) hR hO hOD (lv_sub hl [2, 3, 4, 5, 6, 7] rfl)
  · have hf := qif_t hf c13
    obtain ⟨g14, hf⟩ := qgd hf
    have hwe := qso hf
    subst hwe
    subst g14
    refine lv_aload_n hx hb dL_law_265 rfl (lv_at hl 5 rfl) ?_
    refine lv_iconst (v := 0) hx hb dL_law_266 (by decide) ?_
    refine q_lald hC hO (e6 c13) dL_law_267 ?_
    refine lv_iload hx hb dL_law_268 (lv_at hl 0 rfl) ?_
    refine lv_i2l hx hb dL_law_270 rfl ?_
    refine W.lcmp hx hb dL_law_271 ?_
    rw [qcmp0]
    refine lv_if_eq (tgt := 277) hx hb dL_law_272 (by decide) (fun _ => ?_) (fun c_1 => absurd rfl c_1)
    refine lv_goto (tgt := 2120) hx hb dL_law_277 (by decide) ?_
    exact kk _ _ _ _ _ _ _ (by omega) (by omega) hR hO hOD (lv_sub hl [2, 3, 4, 5, 6, 7] rfl)
def qs_1 (w : qMem) (a1 a2 a3 : Int32) : Option qMem :=
  qbdn (fL_lamp w a1 a2) fun (k2 : Int32) (r1 : Int32) (w3 : qMem) =>
  qbd2 (fX6_lamp w3 a1 a2) fun (b7 : Int32) (w9 : qMem) =>
  qbd (fX6_thrown w9) fun (b10 : Int32) =>
  if b10 = k2 then
  if k2 = 0 then
    if r1 = b7 then
    some w9
    else none
  else
    some w9
  else none

set_option maxHeartbeats 4000000 in
set_option maxRecDepth 100000 in
theorem law_1 {p : Program} {l : Launch} {e : Env} {s : State} {m : MethodId} {args : Array Value} {below : List Frame} {meth : Method} {c0 : Code} {Q : State → Prop} {D : va_G} {G : Nat → ClassId} {ad : Nat → Nat} {b L o oD : Nat} {xs : Nat → Int32} {cl cd : ClassId} (hW : qLw p l s m args meth c0 D G ad b L o oD xs) {w wF : qMem} {i : Nat} (hi : i + 3 < L) {H : Heap} {locs : List Loc} {ls : Array Slot} {cc cs : Nat} {f0 : Nat → Int64} {g0 : Nat → UInt64} (hR : qRp D G ad s w H locs) (hO : qOut o cl .long (1, .inr (.inl f0)) (qAdr ad H.size) s H) (hOD : qOut oD cd .double (1, .inr (.inr (.inr (.inl g0)))) (qAdr ad H.size) s H) (hl : lv_has ls 9 (qlvs b o oD i ad)) (hf : qs_1 w (xs (i + 1)) (xs (i + 2)) (xs (i + 3)) = some wF) (hcc : cc + 320 ≤ room_1.cells) (hcs : cs + 2000 ≤ room_1.slots) (kk : ∀ (H : Heap) (locs : List Loc) (ls : Array Slot) (f0 : Nat → Int64) (g0 : Nat → UInt64) (cc1 cs1 : Nat), cc1 ≤ cc + 320 → cs1 ≤ cs + 2000 → qRp D G ad s wF H locs → qOut o cl .long (1, .inr (.inl f0)) (qAdr ad H.size) s H → qOut oD cd .double (1, .inr (.inr (.inr (.inl g0)))) (qAdr ad H.size) s H → lv_has ls 9 (qlvs b o oD i ad) → W p l e room_1 s m args below meth c0 H locs cc1 cs1 Q (F0 m 2120 ls [])) : W p l e room_1 s m args below meth c0 H locs cc cs Q (F0 m 280 ls []) := by
  obtain ⟨hC, hst, hX, hbl, hbA, hL, ho, hoD, hne⟩ := hW
  have hx := hC.1
  have hb := hC.2.1
  have hl : lv_has ls 9 [(0, .ref b), (1, .ref (ad 228)), (2, .ref (ad 238)), (3, .ref o), (4, .ref oD), (5, .int (nI i))] := hl
  unfold qs_1 at hf
  refine lv_aload_n hx hb dL_law_280 rfl (lv_at hl 1 rfl) ?_
  refine lv_aload_n hx hb dL_law_281 rfl (lv_at hl 0 rfl) ?_
  refine lv_iload hx hb dL_law_282 (lv_at hl 5 rfl) ?_
  refine lv_iconst (v := 1) hx hb dL_law_284 (by decide) ?_
  refine lv_iadd hx hb dL_law_285 ?_
  rw [show nI i + 1 = nI (i + 1) from nI_add i 1]
  refine va_sld hx hb hX hbl hbA hR.2 (vp_in_nI (by omega) (by omega)) dL_law_286 ?_
  rw [nI_clamp (by omega)]
  refine lv_aload_n hx hb dL_law_287 rfl (lv_at hl 0 rfl) ?_
  refine lv_iload hx hb dL_law_288 (lv_at hl 5 rfl) ?_
  refine lv_iconst (v := 2) hx hb dL_law_290 (by decide) ?_
  refine lv_iadd hx hb dL_law_291 ?_
  rw [show nI i + 2 = nI (i + 2) from nI_add i 2]
  refine va_sld hx hb hX hbl hbA hR.2 (vp_in_nI (by omega) (by omega)) dL_law_292 ?_
  rw [nI_clamp (by omega)]
  refine lv_aload_n hx hb dL_law_293 rfl (lv_at hl 3 rfl) ?_
  obtain ⟨k2, r1, w3, hq4, hf⟩ := qbdn_s hf
  refine q_callL (As := [.ref (ad 228), .int (xs (i + 1)), .int (xs (i + 2)), .ref o]) (rest := []) hC hR (mL_lamp (qJ hC) hst hq4) hO ho qk_643 qk_644 qk_57 qkl_645 qhd_L_lamp ⟨Nat.le_of_ble_eq_true rfl, Nat.le_of_ble_eq_true rfl⟩ hl.1 rfl (Nat.le_of_ble_eq_true rfl) dL_law_294 ⟨by show _ ≤ room_1.cells; omega, by show _ ≤ room_1.slots; omega⟩ (fun _ H locs hPA hz hk hO1 hR => ?_)
  have hOD := qOut_on2 hOD hne hz hk
  obtain ⟨f5, rfl, e6⟩ := hPA
  have hO := hO1
  refine lv_istore (lv' := [(6, .int k2), (0, .ref b), (1, .ref (ad 228)), (2, .ref (ad 238)), (3, .ref o), (4, .ref oD), (5, .int (nI i))]) hx hb dL_law_297 hl (by decide) rfl (fun ls hl => ?_)
  refine lv_aload_n hx hb dL_law_299 rfl (lv_at hl 3 rfl) ?_
  refine lv_aload_n hx hb dL_law_300 rfl (lv_at hl 1 rfl) ?_
  refine lv_iload hx hb dL_law_301 (lv_at hl 6 rfl) ?_
  refine lv_iconst (v := 1) hx hb dL_law_303 (by decide) ?_
  refine lv_iadd hx hb dL_law_304 ?_
  rw [show nI i + 1 = nI (i + 1) from nI_add i 1]
  refine va_sld hx hb hX hbl hbA hR.2 (vp_in_nI (by omega) (by omega)) dL_law_305 ?_
  rw [nI_clamp (by omega)]
  refine lv_aload_n hx hb dL_law_306 rfl (lv_at hl 1 rfl) ?_
  refine lv_iload hx hb dL_law_307 (lv_at hl 6 rfl) ?_
  refine lv_iconst (v := 2) hx hb dL_law_309 (by decide) ?_
  refine lv_iadd hx hb dL_law_310 ?_
  rw [show nI i + 2 = nI (i + 2) from nI_add i 2]
  refine va_sld hx hb hX hbl hbA hR.2 (vp_in_nI (by omega) (by omega)) dL_law_311 ?_
  rw [nI_clamp (by omega)]
  obtain ⟨b7, w9, hq8, hf⟩ := qbd2_s hf
  refine q_ki (As := [.int (xs (i + 1)), .int (xs (i + 2))]) (rest := []) hC hR (mX6_lamp (qJ hC) hq8) (by decide) (qsh_238 G ad _) rfl qk_1242 qk_1243 qk_1244 qk_64 qk_1245 qhd_X6_lamp ⟨Nat.le_of_ble_eq_true rfl, Nat.le_of_ble_eq_true rfl⟩ hl.1 rfl (Nat.le_of_ble_eq_true rfl) dL_law_312 ⟨by show _ ≤ room_1.cells; omega, by show _ ≤ room_1.slots; omega⟩ (fun H locs hz hk hR => ?_)
  have hO := qX_on qOut_k hO hz hk
  have hOD := qX_on qOut_k hOD hz hk
  refine lv_istore (lv' := [(7, .int b7), (6, .int k2), (0, .ref b), (1, .ref (ad 228)), (2, .ref (ad 238)), (3, .ref o), (4, .ref oD), (5, .int (nI i))]) hx hb dL_law_315 hl (by decide) rfl (fun ls hl => ?_)
  refine lv_aload_n hx hb dL_law_317 rfl (lv_at hl 4 rfl) ?_
  obtain ⟨b10, hq11, hf⟩ := qbd_s hf
  refine q_ki (As := []) (rest := []) hC hR (mX6_thrown (qJ hC) hq11) (by decide) (qsh_238 G ad _) rfl qk_1189 qk_1190 qk_1191 qk_64 qk_1192 qhd_X6_thrown ⟨Nat.le_of_ble_eq_true rfl, Nat.le_of_ble_eq_true rfl⟩ hl.1 rfl (Nat.le_of_ble_eq_true rfl) dL_law_318 ⟨by show _ ≤ room_1.cells; omega, by show _ ≤ room_1.slots; omega⟩ (fun H locs hz hk hR => ?_)
  have hO := qX_on qOut_k hO hz hk
  have hOD := qX_on qOut_k hOD hz hk
  refine lv_iload hx hb dL_law_321 (lv_at hl 1 rfl) ?_
  obtain ⟨g12, hf⟩ := qgd hf
  refine lv_icmp_eq (tgt := 328) hx hb dL_law_323 (by decide) (fun _ => ?_) (fun c_1 => absurd g12 c_1)
  refine lv_iload hx hb dL_law_328 (lv_at hl 1 rfl) ?_
  refine lv_if_ne (tgt := 345) hx hb dL_law_330 (by decide) (fun c13 => ?_) (fun c13 => ?_)
  · have hf := qif_f hf c13
    refine lv_goto (tgt := 2120) hx hb dL_law_345 (by decide) ?_
    have hwe := qso hf
    subst hwe
    exact kk _ _ _ _ _ _ _ (by omega) (by omega) hR hO hOD (lv_sub hl [2, 3, 4, 5, 6, 7] rfl)
  · have hf := qif_t hf c13
    obtain ⟨g14, hf⟩ := qgd hf
    have hwe := qso hf
    subst hwe
    subst g14
    refine lv_aload_n hx hb dL_law_333 rfl (lv_at hl 5 rfl) ?_
    refine lv_iconst (v := 0) hx hb dL_law_334 (by decide) ?_
    refine q_lald hC hO (e6 c13) dL_law_335 ?_
    refine lv_iload hx hb dL_law_336 (lv_at hl 0 rfl) ?_
    refine lv_i2l hx hb dL_law_338 rfl ?_
    refine W.lcmp hx hb dL_law_339 ?_
    rw [qcmp0]
    refine lv_if_eq (tgt := 345) hx hb dL_law_340 (by decide) (fun _ => ?_) (fun c_1 => absurd rfl c_1)
    refine lv_goto (tgt := 2120) hx hb dL_law_345 (by decide) ?_
    exact kk _ _ _ _ _ _ _ (by omega) (by omega) hR hO hOD (lv_sub hl [2, 3, 4, 5, 6, 7] rfl)
def qs_2 (w : qMem) (a1 a2 a3 : Int32) : Option qMem :=
  qbdn (fL_cat w a1 a2) fun (k2 : Int32) (r1 : Int32) (w3 : qMem) =>
  qbd2 (fX6_cat w3 a1 a2) fun (b7 : Int32) (w9 : qMem) =>
  qbd (fX6_thrown w9) fun (b10 : Int32) =>
  if b10 = k2 then
  if k2 = 0 then
    if r1 = b7 then
    some w9
    else none
  else
    some w9
  else none

set_option maxHeartbeats 4000000 in
set_option maxRecDepth 100000 in
theorem law_2 {p : Program} {l : Launch} {e : Env} {s : State} {m : MethodId} {args : Array Value} {below : List Frame} {meth : Method} {c0 : Code} {Q : State → Prop} {D : va_G} {G : Nat → ClassId} {ad : Nat → Nat} {b L o oD : Nat} {xs : Nat → Int32} {cl cd : ClassId} (hW : qLw p l s m args meth c0 D G ad b L o oD xs) {w wF : qMem} {i : Nat} (hi : i + 3 < L) {H : Heap} {locs : List Loc} {ls : Array Slot} {cc cs : Nat} {f0 : Nat → Int64} {g0 : Nat → UInt64} (hR : qRp D G ad s w H locs) (hO : qOut o cl .long (1, .inr (.inl f0)) (qAdr ad H.size) s H) (hOD : qOut oD cd .double (1, .inr (.inr (.inr (.inl g0)))) (qAdr ad H.size) s H) (hl : lv_has ls 9 (qlvs b o oD i ad)) (hf : qs_2 w (xs (i + 1)) (xs (i + 2)) (xs (i + 3)) = some wF) (hcc : cc + 320 ≤ room_1.cells) (hcs : cs + 2000 ≤ room_1.slots) (kk : ∀ (H : Heap) (locs : List Loc) (ls : Array Slot) (f0 : Nat → Int64) (g0 : Nat → UInt64) (cc1 cs1 : Nat), cc1 ≤ cc + 320 → cs1 ≤ cs + 2000 → qRp D G ad s wF H locs → qOut o cl .long (1, .inr (.inl f0)) (qAdr ad H.size) s H → qOut oD cd .double (1, .inr (.inr (.inr (.inl g0)))) (qAdr ad H.size) s H → lv_has ls 9 (qlvs b o oD i ad) → W p l e room_1 s m args below meth c0 H locs cc1 cs1 Q (F0 m 2120 ls [])) : W p l e room_1 s m args below meth c0 H locs cc cs Q (F0 m 348 ls []) := by
  obtain ⟨hC, hst, hX, hbl, hbA, hL, ho, hoD, hne⟩ := hW
  have hx := hC.1
  have hb := hC.2.1
  have hl : lv_has ls 9 [(0, .ref b), (1, .ref (ad 228)), (2, .ref (ad 238)), (3, .ref o), (4, .ref oD), (5, .int (nI i))] := hl
  unfold qs_2 at hf
  refine lv_aload_n hx hb dL_law_348 rfl (lv_at hl 1 rfl) ?_
  refine lv_aload_n hx hb dL_law_349 rfl (lv_at hl 0 rfl) ?_
  refine lv_iload hx hb dL_law_350 (lv_at hl 5 rfl) ?_
  refine lv_iconst (v := 1) hx hb dL_law_352 (by decide) ?_
  refine lv_iadd hx hb dL_law_353 ?_
  rw [show nI i + 1 = nI (i + 1) from nI_add i 1]
  refine va_sld hx hb hX hbl hbA hR.2 (vp_in_nI (by omega) (by omega)) dL_law_354 ?_
  rw [nI_clamp (by omega)]
  refine lv_aload_n hx hb dL_law_355 rfl (lv_at hl 0 rfl) ?_
  refine lv_iload hx hb dL_law_356 (lv_at hl 5 rfl) ?_
  refine lv_iconst (v := 2) hx hb dL_law_358 (by decide) ?_
  refine lv_iadd hx hb dL_law_359 ?_
  rw [show nI i + 2 = nI (i + 2) from nI_add i 2]
  refine va_sld hx hb hX hbl hbA hR.2 (vp_in_nI (by omega) (by omega)) dL_law_360 ?_
  rw [nI_clamp (by omega)]
  refine lv_aload_n hx hb dL_law_361 rfl (lv_at hl 3 rfl) ?_
  obtain ⟨k2, r1, w3, hq4, hf⟩ := qbdn_s hf
  refine q_callL (As := [.ref (ad 228), .int (xs (i + 1)), .int (xs (i + 2)), .ref o]) (rest := []) hC hR (mL_cat (qJ hC) hst hq4) hO ho qk_650 qk_651 qk_57 qkl_652 qhd_L_cat ⟨Nat.le_of_ble_eq_true rfl, Nat.le_of_ble_eq_true rfl⟩ hl.1 rfl (Nat.le_of_ble_eq_true rfl) dL_law_362 ⟨by show _ ≤ room_1.cells; omega, by show _ ≤ room_1.slots; omega⟩ (fun _ H locs hPA hz hk hO1 hR => ?_)
  have hOD := qOut_on2 hOD hne hz hk
  obtain ⟨f5, rfl, e6⟩ := hPA
  have hO := hO1
  refine lv_istore (lv' := [(6, .int k2), (0, .ref b), (1, .ref (ad 228)), (2, .ref (ad 238)), (3, .ref o), (4, .ref oD), (5, .int (nI i))]) hx hb dL_law_365 hl (by decide) rfl (fun ls hl => ?_)
  refine lv_aload_n hx hb dL_law_367 rfl (lv_at hl 3 rfl) ?_
  refine lv_aload_n hx hb dL_law_368 rfl (lv_at hl 1 rfl) ?_
  refine lv_iload hx hb dL_law_369 (lv_at hl 6 rfl) ?_
  refine lv_iconst (v := 1) hx hb dL_law_371 (by decide) ?_
  refine lv_iadd hx hb dL_law_372 ?_
  rw [show nI i + 1 = nI (i + 1) from nI_add i 1]
  refine va_sld hx hb hX hbl hbA hR.2 (vp_in_nI (by omega) (by omega)) dL_law_373 ?_
  rw [nI_clamp (by omega)]
  refine lv_aload_n hx hb dL_law_374 rfl (lv_at hl 1 rfl) ?_
  refine lv_iload hx hb dL_law_375 (lv_at hl 6 rfl) ?_
  refine lv_iconst (v := 2) hx hb dL_law_377 (by decide) ?_
  refine lv_iadd hx hb dL_law_378 ?_
  rw [show nI i + 2 = nI (i + 2) from nI_add i 2]
  refine va_sld hx hb hX hbl hbA hR.2 (vp_in_nI (by omega) (by omega)) dL_law_379 ?_
  rw [nI_clamp (by omega)]
  obtain ⟨b7, w9, hq8, hf⟩ := qbd2_s hf
  refine q_ki (As := [.int (xs (i + 1)), .int (xs (i + 2))]) (rest := []) hC hR (mX6_cat (qJ hC) hq8) (by decide) (qsh_238 G ad _) rfl qk_1246 qk_1247 qk_1248 qk_64 qk_1249 qhd_X6_cat ⟨Nat.le_of_ble_eq_true rfl, Nat.le_of_ble_eq_true rfl⟩ hl.1 rfl (Nat.le_of_ble_eq_true rfl) dL_law_380 ⟨by show _ ≤ room_1.cells; omega, by show _ ≤ room_1.slots; omega⟩ (fun H locs hz hk hR => ?_)
  have hO := qX_on qOut_k hO hz hk
  have hOD := qX_on qOut_k hOD hz hk
  refine lv_istore (lv' := [(7, .int b7), (6, .int k2), (0, .ref b), (1, .ref (ad 228)), (2, .ref (ad 238)), (3, .ref o), (4, .ref oD), (5, .int (nI i))]) hx hb dL_law_383 hl (by decide) rfl (fun ls hl => ?_)
  refine lv_aload_n hx hb dL_law_385 rfl (lv_at hl 4 rfl) ?_
  obtain ⟨b10, hq11, hf⟩ := qbd_s hf
  refine q_ki (As := []) (rest := []) hC hR (mX6_thrown (qJ hC) hq11) (by decide) (qsh_238 G ad _) rfl qk_1189 qk_1190 qk_1191 qk_64 qk_1192 qhd_X6_thrown ⟨Nat.le_of_ble_eq_true rfl, Nat.le_of_ble_eq_true rfl⟩ hl.1 rfl (Nat.le_of_ble_eq_true rfl) dL_law_386 ⟨by show _ ≤ room_1.cells; omega, by show _ ≤ room_1.slots; omega⟩ (fun H locs hz hk hR => ?_)
  have hO := qX_on qOut_k hO hz hk
  have hOD := qX_on qOut_k hOD hz hk
  refine lv_iload hx hb dL_law_389 (lv_at hl 1 rfl) ?_
  obtain ⟨g12, hf⟩ := qgd hf
  refine lv_icmp_eq (tgt := 396) hx hb dL_law_391 (by decide) (fun _ => ?_) (fun c_1 => absurd g12 c_1)
  refine lv_iload hx hb dL_law_396 (lv_at hl 1 rfl) ?_
  refine lv_if_ne (tgt := 413) hx hb dL_law_398 (by decide) (fun c13 => ?_) (fun c13 => ?_)
  · have hf := qif_f hf c13
    refine lv_goto (tgt := 2120) hx hb dL_law_413 (by decide) ?_
    have hwe := qso hf
    subst hwe
    exact kk _ _ _ _ _ _ _ (by omega) (by omega) hR hO hOD (lv_sub hl [2, 3, 4, 5, 6, 7] rfl)
  · have hf := qif_t hf c13
    obtain ⟨g14, hf⟩ := qgd hf
    have hwe := qso hf
    subst hwe
    subst g14
    refine lv_aload_n hx hb dL_law_401 rfl (lv_at hl 5 rfl) ?_
    refine lv_iconst (v := 0) hx hb dL_law_402 (by decide) ?_
    refine q_lald hC hO (e6 c13) dL_law_403 ?_
    refine lv_iload hx hb dL_law_404 (lv_at hl 0 rfl) ?_
    refine lv_i2l hx hb dL_law_406 rfl ?_
    refine W.lcmp hx hb dL_law_407 ?_
    rw [qcmp0]
    refine lv_if_eq (tgt := 413) hx hb dL_law_408 (by decide) (fun _ => ?_) (fun c_1 => absurd rfl c_1)
    refine lv_goto (tgt := 2120) hx hb dL_law_413 (by decide) ?_
    exact kk _ _ _ _ _ _ _ (by omega) (by omega) hR hO hOD (lv_sub hl [2, 3, 4, 5, 6, 7] rfl)
def qs_3 (w : qMem) (a1 a2 a3 : Int32) : Option qMem :=
  qbdn (fL_take w a1) fun (k2 : Int32) (r1 : Int32) (w3 : qMem) =>
  qbd2 (fX6_take w3 a1) fun (b7 : Int32) (w9 : qMem) =>
  qbd (fX6_thrown w9) fun (b10 : Int32) =>
  if b10 = k2 then
  if k2 = 0 then
    if r1 = b7 then
    some w9
    else none
  else
    some w9
  else none

set_option maxHeartbeats 4000000 in
set_option maxRecDepth 100000 in
theorem law_3 {p : Program} {l : Launch} {e : Env} {s : State} {m : MethodId} {args : Array Value} {below : List Frame} {meth : Method} {c0 : Code} {Q : State → Prop} {D : va_G} {G : Nat → ClassId} {ad : Nat → Nat} {b L o oD : Nat} {xs : Nat → Int32} {cl cd : ClassId} (hW : qLw p l s m args meth c0 D G ad b L o oD xs) {w wF : qMem} {i : Nat} (hi : i + 3 < L) {H : Heap} {locs : List Loc} {ls : Array Slot} {cc cs : Nat} {f0 : Nat → Int64} {g0 : Nat → UInt64} (hR : qRp D G ad s w H locs) (hO : qOut o cl .long (1, .inr (.inl f0)) (qAdr ad H.size) s H) (hOD : qOut oD cd .double (1, .inr (.inr (.inr (.inl g0)))) (qAdr ad H.size) s H) (hl : lv_has ls 9 (qlvs b o oD i ad)) (hf : qs_3 w (xs (i + 1)) (xs (i + 2)) (xs (i + 3)) = some wF) (hcc : cc + 320 ≤ room_1.cells) (hcs : cs + 2000 ≤ room_1.slots) (kk : ∀ (H : Heap) (locs : List Loc) (ls : Array Slot) (f0 : Nat → Int64) (g0 : Nat → UInt64) (cc1 cs1 : Nat), cc1 ≤ cc + 320 → cs1 ≤ cs + 2000 → qRp D G ad s wF H locs → qOut o cl .long (1, .inr (.inl f0)) (qAdr ad H.size) s H → qOut oD cd .double (1, .inr (.inr (.inr (.inl g0)))) (qAdr ad H.size) s H → lv_has ls 9 (qlvs b o oD i ad) → W p l e room_1 s m args below meth c0 H locs cc1 cs1 Q (F0 m 2120 ls [])) : W p l e room_1 s m args below meth c0 H locs cc cs Q (F0 m 416 ls []) := by
  obtain ⟨hC, hst, hX, hbl, hbA, hL, ho, hoD, hne⟩ := hW
  have hx := hC.1
  have hb := hC.2.1
  have hl : lv_has ls 9 [(0, .ref b), (1, .ref (ad 228)), (2, .ref (ad 238)), (3, .ref o), (4, .ref oD), (5, .int (nI i))] := hl
  unfold qs_3 at hf
  refine lv_aload_n hx hb dL_law_416 rfl (lv_at hl 1 rfl) ?_
  refine lv_aload_n hx hb dL_law_417 rfl (lv_at hl 0 rfl) ?_
  refine lv_iload hx hb dL_law_418 (lv_at hl 5 rfl) ?_
  refine lv_iconst (v := 1) hx hb dL_law_420 (by decide) ?_
  refine lv_iadd hx hb dL_law_421 ?_
  rw [show nI i + 1 = nI (i + 1) from nI_add i 1]
  refine va_sld hx hb hX hbl hbA hR.2 (vp_in_nI (by omega) (by omega)) dL_law_422 ?_
  rw [nI_clamp (by omega)]
  refine lv_aload_n hx hb dL_law_423 rfl (lv_at hl 3 rfl) ?_
  obtain ⟨k2, r1, w3, hq4, hf⟩ := qbdn_s hf
  refine q_callL (As := [.ref (ad 228), .int (xs (i + 1)), .ref o]) (rest := []) hC hR (mL_take (qJ hC) hst hq4) hO ho qk_657 qk_658 qk_57 qkl_659 qhd_L_take ⟨Nat.le_of_ble_eq_true rfl, Nat.le_of_ble_eq_true rfl⟩ hl.1 rfl (Nat.le_of_ble_eq_true rfl) dL_law_424 ⟨by show _ ≤ room_1.cells; omega, by show _ ≤ room_1.slots; omega⟩ (fun _ H locs hPA hz hk hO1 hR => ?_)
  have hOD := qOut_on2 hOD hne hz hk
  obtain ⟨f5, rfl, e6⟩ := hPA
  have hO := hO1
  refine lv_istore (lv' := [(6, .int k2), (0, .ref b), (1, .ref (ad 228)), (2, .ref (ad 238)), (3, .ref o), (4, .ref oD), (5, .int (nI i))]) hx hb dL_law_427 hl (by decide) rfl (fun ls hl => ?_)
  refine lv_aload_n hx hb dL_law_429 rfl (lv_at hl 3 rfl) ?_
  refine lv_aload_n hx hb dL_law_430 rfl (lv_at hl 1 rfl) ?_
  refine lv_iload hx hb dL_law_431 (lv_at hl 6 rfl) ?_
  refine lv_iconst (v := 1) hx hb dL_law_433 (by decide) ?_
  refine lv_iadd hx hb dL_law_434 ?_
  rw [show nI i + 1 = nI (i + 1) from nI_add i 1]
  refine va_sld hx hb hX hbl hbA hR.2 (vp_in_nI (by omega) (by omega)) dL_law_435 ?_
  rw [nI_clamp (by omega)]
  obtain ⟨b7, w9, hq8, hf⟩ := qbd2_s hf
  refine q_ki (As := [.int (xs (i + 1))]) (rest := []) hC hR (mX6_take (qJ hC) hq8) (by decide) (qsh_238 G ad _) rfl qk_1250 qk_1251 qk_1252 qk_64 qk_1253 qhd_X6_take ⟨Nat.le_of_ble_eq_true rfl, Nat.le_of_ble_eq_true rfl⟩ hl.1 rfl (Nat.le_of_ble_eq_true rfl) dL_law_436 ⟨by show _ ≤ room_1.cells; omega, by show _ ≤ room_1.slots; omega⟩ (fun H locs hz hk hR => ?_)
  have hO := qX_on qOut_k hO hz hk
  have hOD := qX_on qOut_k hOD hz hk
  refine lv_istore (lv' := [(7, .int b7), (6, .int k2), (0, .ref b), (1, .ref (ad 228)), (2, .ref (ad 238)), (3, .ref o), (4, .ref oD), (5, .int (nI i))]) hx hb dL_law_439 hl (by decide) rfl (fun ls hl => ?_)
  refine lv_aload_n hx hb dL_law_441 rfl (lv_at hl 4 rfl) ?_
  obtain ⟨b10, hq11, hf⟩ := qbd_s hf
  refine q_ki (As := []) (rest := []) hC hR (mX6_thrown (qJ hC) hq11) (by decide) (qsh_238 G ad _) rfl qk_1189 qk_1190 qk_1191 qk_64 qk_1192 qhd_X6_thrown ⟨Nat.le_of_ble_eq_true rfl, Nat.le_of_ble_eq_true rfl⟩ hl.1 rfl (Nat.le_of_ble_eq_true rfl) dL_law_442 ⟨by show _ ≤ room_1.cells; omega, by show _ ≤ room_1.slots; omega⟩ (fun H locs hz hk hR => ?_)
  have hO := qX_on qOut_k hO hz hk
  have hOD := qX_on qOut_k hOD hz hk
  refine lv_iload hx hb dL_law_445 (lv_at hl 1 rfl) ?_
  obtain ⟨g12, hf⟩ := qgd hf
  refine lv_icmp_eq (tgt := 452) hx hb dL_law_447 (by decide) (fun _ => ?_) (fun c_1 => absurd g12 c_1)
  refine lv_iload hx hb dL_law_452 (lv_at hl 1 rfl) ?_
  refine lv_if_ne (tgt := 469) hx hb dL_law_454 (by decide) (fun c13 => ?_) (fun c13 => ?_)
  · have hf := qif_f hf c13
    refine lv_goto (tgt := 2120) hx hb dL_law_469 (by decide) ?_
    have hwe := qso hf
    subst hwe
    exact kk _ _ _ _ _ _ _ (by omega) (by omega) hR hO hOD (lv_sub hl [2, 3, 4, 5, 6, 7] rfl)
  · have hf := qif_t hf c13
    obtain ⟨g14, hf⟩ := qgd hf
    have hwe := qso hf
    subst hwe
    subst g14
    refine lv_aload_n hx hb dL_law_457 rfl (lv_at hl 5 rfl) ?_
    refine lv_iconst (v := 0) hx hb dL_law_458 (by decide) ?_
    refine q_lald hC hO (e6 c13) dL_law_459 ?_
    refine lv_iload hx hb dL_law_460 (lv_at hl 0 rfl) ?_
    refine lv_i2l hx hb dL_law_462 rfl ?_
    refine W.lcmp hx hb dL_law_463 ?_
    rw [qcmp0]
    refine lv_if_eq (tgt := 469) hx hb dL_law_464 (by decide) (fun _ => ?_) (fun c_1 => absurd rfl c_1)
    refine lv_goto (tgt := 2120) hx hb dL_law_469 (by decide) ?_
    exact kk _ _ _ _ _ _ _ (by omega) (by omega) hR hO hOD (lv_sub hl [2, 3, 4, 5, 6, 7] rfl)
def qs_4 (w : qMem) (a1 a2 a3 : Int32) : Option qMem :=
  qbdn (fL_cue w a1 a2) fun (k2 : Int32) (r1 : Int32) (w3 : qMem) =>
  qbd2 (fX6_cue w3 a1 a2) fun (b7 : Int32) (w9 : qMem) =>
  qbd (fX6_thrown w9) fun (b10 : Int32) =>
  if b10 = k2 then
  if k2 = 0 then
    if r1 = b7 then
    some w9
    else none
  else
    some w9
  else none

set_option maxHeartbeats 4000000 in
set_option maxRecDepth 100000 in
theorem law_4 {p : Program} {l : Launch} {e : Env} {s : State} {m : MethodId} {args : Array Value} {below : List Frame} {meth : Method} {c0 : Code} {Q : State → Prop} {D : va_G} {G : Nat → ClassId} {ad : Nat → Nat} {b L o oD : Nat} {xs : Nat → Int32} {cl cd : ClassId} (hW : qLw p l s m args meth c0 D G ad b L o oD xs) {w wF : qMem} {i : Nat} (hi : i + 3 < L) {H : Heap} {locs : List Loc} {ls : Array Slot} {cc cs : Nat} {f0 : Nat → Int64} {g0 : Nat → UInt64} (hR : qRp D G ad s w H locs) (hO : qOut o cl .long (1, .inr (.inl f0)) (qAdr ad H.size) s H) (hOD : qOut oD cd .double (1, .inr (.inr (.inr (.inl g0)))) (qAdr ad H.size) s H) (hl : lv_has ls 9 (qlvs b o oD i ad)) (hf : qs_4 w (xs (i + 1)) (xs (i + 2)) (xs (i + 3)) = some wF) (hcc : cc + 320 ≤ room_1.cells) (hcs : cs + 2000 ≤ room_1.slots) (kk : ∀ (H : Heap) (locs : List Loc) (ls : Array Slot) (f0 : Nat → Int64) (g0 : Nat → UInt64) (cc1 cs1 : Nat), cc1 ≤ cc + 320 → cs1 ≤ cs + 2000 → qRp D G ad s wF H locs → qOut o cl .long (1, .inr (.inl f0)) (qAdr ad H.size) s H → qOut oD cd .double (1, .inr (.inr (.inr (.inl g0)))) (qAdr ad H.size) s H → lv_has ls 9 (qlvs b o oD i ad) → W p l e room_1 s m args below meth c0 H locs cc1 cs1 Q (F0 m 2120 ls [])) : W p l e room_1 s m args below meth c0 H locs cc cs Q (F0 m 472 ls []) := by
  obtain ⟨hC, hst, hX, hbl, hbA, hL, ho, hoD, hne⟩ := hW
  have hx := hC.1
  have hb := hC.2.1
  have hl : lv_has ls 9 [(0, .ref b), (1, .ref (ad 228)), (2, .ref (ad 238)), (3, .ref o), (4, .ref oD), (5, .int (nI i))] := hl
  unfold qs_4 at hf
  refine lv_aload_n hx hb dL_law_472 rfl (lv_at hl 1 rfl) ?_
  refine lv_aload_n hx hb dL_law_473 rfl (lv_at hl 0 rfl) ?_
  refine lv_iload hx hb dL_law_474 (lv_at hl 5 rfl) ?_
  refine lv_iconst (v := 1) hx hb dL_law_476 (by decide) ?_
  refine lv_iadd hx hb dL_law_477 ?_
  rw [show nI i + 1 = nI (i + 1) from nI_add i 1]
  refine va_sld hx hb hX hbl hbA hR.2 (vp_in_nI (by omega) (by omega)) dL_law_478 ?_
  rw [nI_clamp (by omega)]
  refine lv_aload_n hx hb dL_law_479 rfl (lv_at hl 0 rfl) ?_
  refine lv_iload hx hb dL_law_480 (lv_at hl 5 rfl) ?_
  refine lv_iconst (v := 2) hx hb dL_law_482 (by decide) ?_
  refine lv_iadd hx hb dL_law_483 ?_
  rw [show nI i + 2 = nI (i + 2) from nI_add i 2]
  refine va_sld hx hb hX hbl hbA hR.2 (vp_in_nI (by omega) (by omega)) dL_law_484 ?_
  rw [nI_clamp (by omega)]
  refine lv_aload_n hx hb dL_law_485 rfl (lv_at hl 3 rfl) ?_
  obtain ⟨k2, r1, w3, hq4, hf⟩ := qbdn_s hf
  refine q_callL (As := [.ref (ad 228), .int (xs (i + 1)), .int (xs (i + 2)), .ref o]) (rest := []) hC hR (mL_cue (qJ hC) hst hq4) hO ho qk_701 qk_702 qk_57 qkl_703 qhd_L_cue ⟨Nat.le_of_ble_eq_true rfl, Nat.le_of_ble_eq_true rfl⟩ hl.1 rfl (Nat.le_of_ble_eq_true rfl) dL_law_486 ⟨by show _ ≤ room_1.cells; omega, by show _ ≤ room_1.slots; omega⟩ (fun _ H locs hPA hz hk hO1 hR => ?_)
  have hOD := qOut_on2 hOD hne hz hk
  obtain ⟨f5, rfl, e6⟩ := hPA
  have hO := hO1
  refine lv_istore (lv' := [(6, .int k2), (0, .ref b), (1, .ref (ad 228)), (2, .ref (ad 238)), (3, .ref o), (4, .ref oD), (5, .int (nI i))]) hx hb dL_law_489 hl (by decide) rfl (fun ls hl => ?_)
  refine lv_aload_n hx hb dL_law_491 rfl (lv_at hl 3 rfl) ?_
  refine lv_aload_n hx hb dL_law_492 rfl (lv_at hl 1 rfl) ?_
  refine lv_iload hx hb dL_law_493 (lv_at hl 6 rfl) ?_
  refine lv_iconst (v := 1) hx hb dL_law_495 (by decide) ?_
  refine lv_iadd hx hb dL_law_496 ?_
  rw [show nI i + 1 = nI (i + 1) from nI_add i 1]
  refine va_sld hx hb hX hbl hbA hR.2 (vp_in_nI (by omega) (by omega)) dL_law_497 ?_
  rw [nI_clamp (by omega)]
  refine lv_aload_n hx hb dL_law_498 rfl (lv_at hl 1 rfl) ?_
  refine lv_iload hx hb dL_law_499 (lv_at hl 6 rfl) ?_
  refine lv_iconst (v := 2) hx hb dL_law_501 (by decide) ?_
  refine lv_iadd hx hb dL_law_502 ?_
  rw [show nI i + 2 = nI (i + 2) from nI_add i 2]
  refine va_sld hx hb hX hbl hbA hR.2 (vp_in_nI (by omega) (by omega)) dL_law_503 ?_
  rw [nI_clamp (by omega)]
  obtain ⟨b7, w9, hq8, hf⟩ := qbd2_s hf
  refine q_ki (As := [.int (xs (i + 1)), .int (xs (i + 2))]) (rest := []) hC hR (mX6_cue (qJ hC) hq8) (by decide) (qsh_238 G ad _) rfl qk_1262 qk_1263 qk_1264 qk_64 qk_1265 qhd_X6_cue ⟨Nat.le_of_ble_eq_true rfl, Nat.le_of_ble_eq_true rfl⟩ hl.1 rfl (Nat.le_of_ble_eq_true rfl) dL_law_504 ⟨by show _ ≤ room_1.cells; omega, by show _ ≤ room_1.slots; omega⟩ (fun H locs hz hk hR => ?_)
  have hO := qX_on qOut_k hO hz hk
  have hOD := qX_on qOut_k hOD hz hk
  refine lv_istore (lv' := [(7, .int b7), (6, .int k2), (0, .ref b), (1, .ref (ad 228)), (2, .ref (ad 238)), (3, .ref o), (4, .ref oD), (5, .int (nI i))]) hx hb dL_law_507 hl (by decide) rfl (fun ls hl => ?_)
  refine lv_aload_n hx hb dL_law_509 rfl (lv_at hl 4 rfl) ?_
  obtain ⟨b10, hq11, hf⟩ := qbd_s hf
  refine q_ki (As := []) (rest := []) hC hR (mX6_thrown (qJ hC) hq11) (by decide) (qsh_238 G ad _) rfl qk_1189 qk_1190 qk_1191 qk_64 qk_1192 qhd_X6_thrown ⟨Nat.le_of_ble_eq_true rfl, Nat.le_of_ble_eq_true rfl⟩ hl.1 rfl (Nat.le_of_ble_eq_true rfl) dL_law_510 ⟨by show _ ≤ room_1.cells; omega, by show _ ≤ room_1.slots; omega⟩ (fun H locs hz hk hR => ?_)
  have hO := qX_on qOut_k hO hz hk
  have hOD := qX_on qOut_k hOD hz hk
  refine lv_iload hx hb dL_law_513 (lv_at hl 1 rfl) ?_
  obtain ⟨g12, hf⟩ := qgd hf
  refine lv_icmp_eq (tgt := 520) hx hb dL_law_515 (by decide) (fun _ => ?_) (fun c_1 => absurd g12 c_1)
  refine lv_iload hx hb dL_law_520 (lv_at hl 1 rfl) ?_
  refine lv_if_ne (tgt := 537) hx hb dL_law_522 (by decide) (fun c13 => ?_) (fun c13 => ?_)
  · have hf := qif_f hf c13
    refine lv_goto (tgt := 2120) hx hb dL_law_537 (by decide) ?_
    have hwe := qso hf
    subst hwe
    exact kk _ _ _ _ _ _ _ (by omega) (by omega) hR hO hOD (lv_sub hl [2, 3, 4, 5, 6, 7] rfl)
  · have hf := qif_t hf c13
    obtain ⟨g14, hf⟩ := qgd hf
    have hwe := qso hf
    subst hwe
    subst g14
    refine lv_aload_n hx hb dL_law_525 rfl (lv_at hl 5 rfl) ?_
    refine lv_iconst (v := 0) hx hb dL_law_526 (by decide) ?_
    refine q_lald hC hO (e6 c13) dL_law_527 ?_
    refine lv_iload hx hb dL_law_528 (lv_at hl 0 rfl) ?_
    refine lv_i2l hx hb dL_law_530 rfl ?_
    refine W.lcmp hx hb dL_law_531 ?_
    rw [qcmp0]
    refine lv_if_eq (tgt := 537) hx hb dL_law_532 (by decide) (fun _ => ?_) (fun c_1 => absurd rfl c_1)
    refine lv_goto (tgt := 2120) hx hb dL_law_537 (by decide) ?_
    exact kk _ _ _ _ _ _ _ (by omega) (by omega) hR hO hOD (lv_sub hl [2, 3, 4, 5, 6, 7] rfl)
def qs_5 (w : qMem) (a1 a2 a3 : Int32) : Option qMem :=
  qbdn (fL_set w a1) fun (k2 : Int32) (r1 : Int32) (w3 : qMem) =>
  qbd2 (fX6_set w3 a1) fun (b7 : Int32) (w9 : qMem) =>
  qbd (fX6_thrown w9) fun (b10 : Int32) =>
  if b10 = k2 then
  if k2 = 0 then
    if r1 = b7 then
    some w9
    else none
  else
    some w9
  else none

set_option maxHeartbeats 4000000 in
set_option maxRecDepth 100000 in
theorem law_5 {p : Program} {l : Launch} {e : Env} {s : State} {m : MethodId} {args : Array Value} {below : List Frame} {meth : Method} {c0 : Code} {Q : State → Prop} {D : va_G} {G : Nat → ClassId} {ad : Nat → Nat} {b L o oD : Nat} {xs : Nat → Int32} {cl cd : ClassId} (hW : qLw p l s m args meth c0 D G ad b L o oD xs) {w wF : qMem} {i : Nat} (hi : i + 3 < L) {H : Heap} {locs : List Loc} {ls : Array Slot} {cc cs : Nat} {f0 : Nat → Int64} {g0 : Nat → UInt64} (hR : qRp D G ad s w H locs) (hO : qOut o cl .long (1, .inr (.inl f0)) (qAdr ad H.size) s H) (hOD : qOut oD cd .double (1, .inr (.inr (.inr (.inl g0)))) (qAdr ad H.size) s H) (hl : lv_has ls 9 (qlvs b o oD i ad)) (hf : qs_5 w (xs (i + 1)) (xs (i + 2)) (xs (i + 3)) = some wF) (hcc : cc + 320 ≤ room_1.cells) (hcs : cs + 2000 ≤ room_1.slots) (kk : ∀ (H : Heap) (locs : List Loc) (ls : Array Slot) (f0 : Nat → Int64) (g0 : Nat → UInt64) (cc1 cs1 : Nat), cc1 ≤ cc + 320 → cs1 ≤ cs + 2000 → qRp D G ad s wF H locs → qOut o cl .long (1, .inr (.inl f0)) (qAdr ad H.size) s H → qOut oD cd .double (1, .inr (.inr (.inr (.inl g0)))) (qAdr ad H.size) s H → lv_has ls 9 (qlvs b o oD i ad) → W p l e room_1 s m args below meth c0 H locs cc1 cs1 Q (F0 m 2120 ls [])) : W p l e room_1 s m args below meth c0 H locs cc cs Q (F0 m 540 ls []) := by
  obtain ⟨hC, hst, hX, hbl, hbA, hL, ho, hoD, hne⟩ := hW
  have hx := hC.1
  have hb := hC.2.1
  have hl : lv_has ls 9 [(0, .ref b), (1, .ref (ad 228)), (2, .ref (ad 238)), (3, .ref o), (4, .ref oD), (5, .int (nI i))] := hl
  unfold qs_5 at hf
  refine lv_aload_n hx hb dL_law_540 rfl (lv_at hl 1 rfl) ?_
  refine lv_aload_n hx hb dL_law_541 rfl (lv_at hl 0 rfl) ?_
  refine lv_iload hx hb dL_law_542 (lv_at hl 5 rfl) ?_
  refine lv_iconst (v := 1) hx hb dL_law_544 (by decide) ?_
  refine lv_iadd hx hb dL_law_545 ?_
  rw [show nI i + 1 = nI (i + 1) from nI_add i 1]
  refine va_sld hx hb hX hbl hbA hR.2 (vp_in_nI (by omega) (by omega)) dL_law_546 ?_
  rw [nI_clamp (by omega)]
  refine lv_aload_n hx hb dL_law_547 rfl (lv_at hl 3 rfl) ?_
  obtain ⟨k2, r1, w3, hq4, hf⟩ := qbdn_s hf
  refine q_callL (As := [.ref (ad 228), .int (xs (i + 1)), .ref o]) (rest := []) hC hR (mL_set (qJ hC) hst hq4) hO ho qk_710 qk_711 qk_57 qkl_712 qhd_L_set ⟨Nat.le_of_ble_eq_true rfl, Nat.le_of_ble_eq_true rfl⟩ hl.1 rfl (Nat.le_of_ble_eq_true rfl) dL_law_548 ⟨by show _ ≤ room_1.cells; omega, by show _ ≤ room_1.slots; omega⟩ (fun _ H locs hPA hz hk hO1 hR => ?_)
  have hOD := qOut_on2 hOD hne hz hk
  obtain ⟨f5, rfl, e6⟩ := hPA
  have hO := hO1
  refine lv_istore (lv' := [(6, .int k2), (0, .ref b), (1, .ref (ad 228)), (2, .ref (ad 238)), (3, .ref o), (4, .ref oD), (5, .int (nI i))]) hx hb dL_law_551 hl (by decide) rfl (fun ls hl => ?_)
  refine lv_aload_n hx hb dL_law_553 rfl (lv_at hl 3 rfl) ?_
  refine lv_aload_n hx hb dL_law_554 rfl (lv_at hl 1 rfl) ?_
  refine lv_iload hx hb dL_law_555 (lv_at hl 6 rfl) ?_
  refine lv_iconst (v := 1) hx hb dL_law_557 (by decide) ?_
  refine lv_iadd hx hb dL_law_558 ?_
  rw [show nI i + 1 = nI (i + 1) from nI_add i 1]
  refine va_sld hx hb hX hbl hbA hR.2 (vp_in_nI (by omega) (by omega)) dL_law_559 ?_
  rw [nI_clamp (by omega)]
  obtain ⟨b7, w9, hq8, hf⟩ := qbd2_s hf
  refine q_ki (As := [.int (xs (i + 1))]) (rest := []) hC hR (mX6_set (qJ hC) hq8) (by decide) (qsh_238 G ad _) rfl qk_1270 qk_1271 qk_1272 qk_64 qk_1273 qhd_X6_set ⟨Nat.le_of_ble_eq_true rfl, Nat.le_of_ble_eq_true rfl⟩ hl.1 rfl (Nat.le_of_ble_eq_true rfl) dL_law_560 ⟨by show _ ≤ room_1.cells; omega, by show _ ≤ room_1.slots; omega⟩ (fun H locs hz hk hR => ?_)
  have hO := qX_on qOut_k hO hz hk
  have hOD := qX_on qOut_k hOD hz hk
  refine lv_istore (lv' := [(7, .int b7), (6, .int k2), (0, .ref b), (1, .ref (ad 228)), (2, .ref (ad 238)), (3, .ref o), (4, .ref oD), (5, .int (nI i))]) hx hb dL_law_563 hl (by decide) rfl (fun ls hl => ?_)
  refine lv_aload_n hx hb dL_law_565 rfl (lv_at hl 4 rfl) ?_
  obtain ⟨b10, hq11, hf⟩ := qbd_s hf
  refine q_ki (As := []) (rest := []) hC hR (mX6_thrown (qJ hC) hq11) (by decide) (qsh_238 G ad _) rfl qk_1189 qk_1190 qk_1191 qk_64 qk_1192 qhd_X6_thrown ⟨Nat.le_of_ble_eq_true rfl, Nat.le_of_ble_eq_true rfl⟩ hl.1 rfl (Nat.le_of_ble_eq_true rfl) dL_law_566 ⟨by show _ ≤ room_1.cells; omega, by show _ ≤ room_1.slots; omega⟩ (fun H locs hz hk hR => ?_)
  have hO := qX_on qOut_k hO hz hk
  have hOD := qX_on qOut_k hOD hz hk
  refine lv_iload hx hb dL_law_569 (lv_at hl 1 rfl) ?_
  obtain ⟨g12, hf⟩ := qgd hf
  refine lv_icmp_eq (tgt := 576) hx hb dL_law_571 (by decide) (fun _ => ?_) (fun c_1 => absurd g12 c_1)
  refine lv_iload hx hb dL_law_576 (lv_at hl 1 rfl) ?_
  refine lv_if_ne (tgt := 593) hx hb dL_law_578 (by decide) (fun c13 => ?_) (fun c13 => ?_)
  · have hf := qif_f hf c13
    refine lv_goto (tgt := 2120) hx hb dL_law_593 (by decide) ?_
    have hwe := qso hf
    subst hwe
    exact kk _ _ _ _ _ _ _ (by omega) (by omega) hR hO hOD (lv_sub hl [2, 3, 4, 5, 6, 7] rfl)
  · have hf := qif_t hf c13
    obtain ⟨g14, hf⟩ := qgd hf
    have hwe := qso hf
    subst hwe
    subst g14
    refine lv_aload_n hx hb dL_law_581 rfl (lv_at hl 5 rfl) ?_
    refine lv_iconst (v := 0) hx hb dL_law_582 (by decide) ?_
    refine q_lald hC hO (e6 c13) dL_law_583 ?_
    refine lv_iload hx hb dL_law_584 (lv_at hl 0 rfl) ?_
    refine lv_i2l hx hb dL_law_586 rfl ?_
    refine W.lcmp hx hb dL_law_587 ?_
    rw [qcmp0]
    refine lv_if_eq (tgt := 593) hx hb dL_law_588 (by decide) (fun _ => ?_) (fun c_1 => absurd rfl c_1)
    refine lv_goto (tgt := 2120) hx hb dL_law_593 (by decide) ?_
    exact kk _ _ _ _ _ _ _ (by omega) (by omega) hR hO hOD (lv_sub hl [2, 3, 4, 5, 6, 7] rfl)
def qs_6 (w : qMem) (a1 a2 a3 : Int32) : Option qMem :=
  qbd2 (fX5_shock w) fun (b1 : Int32) (w3 : qMem) =>
  qbd2 (fX6_shock w3) fun (b4 : Int32) (w6 : qMem) =>
  if b1 = b4 then
  some w6
  else none

set_option maxHeartbeats 4000000 in
set_option maxRecDepth 100000 in
theorem law_6 {p : Program} {l : Launch} {e : Env} {s : State} {m : MethodId} {args : Array Value} {below : List Frame} {meth : Method} {c0 : Code} {Q : State → Prop} {D : va_G} {G : Nat → ClassId} {ad : Nat → Nat} {b L o oD : Nat} {xs : Nat → Int32} {cl cd : ClassId} (hW : qLw p l s m args meth c0 D G ad b L o oD xs) {w wF : qMem} {i : Nat} (hi : i + 3 < L) {H : Heap} {locs : List Loc} {ls : Array Slot} {cc cs : Nat} {f0 : Nat → Int64} {g0 : Nat → UInt64} (hR : qRp D G ad s w H locs) (hO : qOut o cl .long (1, .inr (.inl f0)) (qAdr ad H.size) s H) (hOD : qOut oD cd .double (1, .inr (.inr (.inr (.inl g0)))) (qAdr ad H.size) s H) (hl : lv_has ls 9 (qlvs b o oD i ad)) (hf : qs_6 w (xs (i + 1)) (xs (i + 2)) (xs (i + 3)) = some wF) (hcc : cc + 320 ≤ room_1.cells) (hcs : cs + 2000 ≤ room_1.slots) (kk : ∀ (H : Heap) (locs : List Loc) (ls : Array Slot) (f0 : Nat → Int64) (g0 : Nat → UInt64) (cc1 cs1 : Nat), cc1 ≤ cc + 320 → cs1 ≤ cs + 2000 → qRp D G ad s wF H locs → qOut o cl .long (1, .inr (.inl f0)) (qAdr ad H.size) s H → qOut oD cd .double (1, .inr (.inr (.inr (.inl g0)))) (qAdr ad H.size) s H → lv_has ls 9 (qlvs b o oD i ad) → W p l e room_1 s m args below meth c0 H locs cc1 cs1 Q (F0 m 2120 ls [])) : W p l e room_1 s m args below meth c0 H locs cc cs Q (F0 m 596 ls []) := by
  obtain ⟨hC, hst, hX, hbl, hbA, hL, ho, hoD, hne⟩ := hW
  have hx := hC.1
  have hb := hC.2.1
  have hl : lv_has ls 9 [(0, .ref b), (1, .ref (ad 228)), (2, .ref (ad 238)), (3, .ref o), (4, .ref oD), (5, .int (nI i))] := hl
  unfold qs_6 at hf
  refine lv_aload_n hx hb dL_law_596 rfl (lv_at hl 1 rfl) ?_
  obtain ⟨b1, w3, hq2, hf⟩ := qbd2_s hf
  refine q_ki (As := []) (rest := []) hC hR (mX5_shock (qJ hC) hq2) (by decide) (qsh_228 G ad _) rfl qk_298 qk_299 qk_300 qk_58 qk_301 qhd_X5_shock ⟨Nat.le_of_ble_eq_true rfl, Nat.le_of_ble_eq_true rfl⟩ hl.1 rfl (Nat.le_of_ble_eq_true rfl) dL_law_597 ⟨by show _ ≤ room_1.cells; omega, by show _ ≤ room_1.slots; omega⟩ (fun H locs hz hk hR => ?_)
  have hO := qX_on qOut_k hO hz hk
  have hOD := qX_on qOut_k hOD hz hk
  refine lv_aload_n hx hb dL_law_600 rfl (lv_at hl 2 rfl) ?_
  obtain ⟨b4, w6, hq5, hf⟩ := qbd2_s hf
  refine q_ki (As := []) (rest := [.int b1]) hC hR (mX6_shock (qJ hC) hq5) (by decide) (qsh_238 G ad _) rfl qk_1281 qk_1282 qk_1283 qk_64 qk_1284 qhd_X6_shock ⟨Nat.le_of_ble_eq_true rfl, Nat.le_of_ble_eq_true rfl⟩ hl.1 rfl (Nat.le_of_ble_eq_true rfl) dL_law_601 ⟨by show _ ≤ room_1.cells; omega, by show _ ≤ room_1.slots; omega⟩ (fun H locs hz hk hR => ?_)
  have hO := qX_on qOut_k hO hz hk
  have hOD := qX_on qOut_k hOD hz hk
  obtain ⟨g7, hf⟩ := qgd hf
  refine lv_icmp_eq (tgt := 2120) hx hb dL_law_604 (by decide) (fun _ => ?_) (fun c_1 => absurd g7 c_1)
  have hwe := qso hf
  subst hwe
  exact kk _ _ _ _ _ _ _ (by omega) (by omega) hR hO hOD (lv_sub hl [0, 1, 2, 3, 4, 5] rfl)
def qs_7 (w : qMem) (a1 a2 a3 : Int32) : Option qMem :=
  qbdn (fL_add w a1) fun (k2 : Int32) (r1 : Int32) (w3 : qMem) =>
  qbd2 (fX6_add w3 a1) fun (b7 : Int32) (w9 : qMem) =>
  qbd (fX6_thrown w9) fun (b10 : Int32) =>
  if b10 = k2 then
  if k2 = 0 then
    if r1 = b7 then
    some w9
    else none
  else
    some w9
  else none

set_option maxHeartbeats 4000000 in
set_option maxRecDepth 100000 in
theorem law_7 {p : Program} {l : Launch} {e : Env} {s : State} {m : MethodId} {args : Array Value} {below : List Frame} {meth : Method} {c0 : Code} {Q : State → Prop} {D : va_G} {G : Nat → ClassId} {ad : Nat → Nat} {b L o oD : Nat} {xs : Nat → Int32} {cl cd : ClassId} (hW : qLw p l s m args meth c0 D G ad b L o oD xs) {w wF : qMem} {i : Nat} (hi : i + 3 < L) {H : Heap} {locs : List Loc} {ls : Array Slot} {cc cs : Nat} {f0 : Nat → Int64} {g0 : Nat → UInt64} (hR : qRp D G ad s w H locs) (hO : qOut o cl .long (1, .inr (.inl f0)) (qAdr ad H.size) s H) (hOD : qOut oD cd .double (1, .inr (.inr (.inr (.inl g0)))) (qAdr ad H.size) s H) (hl : lv_has ls 9 (qlvs b o oD i ad)) (hf : qs_7 w (xs (i + 1)) (xs (i + 2)) (xs (i + 3)) = some wF) (hcc : cc + 320 ≤ room_1.cells) (hcs : cs + 2000 ≤ room_1.slots) (kk : ∀ (H : Heap) (locs : List Loc) (ls : Array Slot) (f0 : Nat → Int64) (g0 : Nat → UInt64) (cc1 cs1 : Nat), cc1 ≤ cc + 320 → cs1 ≤ cs + 2000 → qRp D G ad s wF H locs → qOut o cl .long (1, .inr (.inl f0)) (qAdr ad H.size) s H → qOut oD cd .double (1, .inr (.inr (.inr (.inl g0)))) (qAdr ad H.size) s H → lv_has ls 9 (qlvs b o oD i ad) → W p l e room_1 s m args below meth c0 H locs cc1 cs1 Q (F0 m 2120 ls [])) : W p l e room_1 s m args below meth c0 H locs cc cs Q (F0 m 609 ls []) := by
  obtain ⟨hC, hst, hX, hbl, hbA, hL, ho, hoD, hne⟩ := hW
  have hx := hC.1
  have hb := hC.2.1
  have hl : lv_has ls 9 [(0, .ref b), (1, .ref (ad 228)), (2, .ref (ad 238)), (3, .ref o), (4, .ref oD), (5, .int (nI i))] := hl
  unfold qs_7 at hf
  refine lv_aload_n hx hb dL_law_609 rfl (lv_at hl 1 rfl) ?_
  refine lv_aload_n hx hb dL_law_610 rfl (lv_at hl 0 rfl) ?_
  refine lv_iload hx hb dL_law_611 (lv_at hl 5 rfl) ?_
  refine lv_iconst (v := 1) hx hb dL_law_613 (by decide) ?_
  refine lv_iadd hx hb dL_law_614 ?_
  rw [show nI i + 1 = nI (i + 1) from nI_add i 1]
  refine va_sld hx hb hX hbl hbA hR.2 (vp_in_nI (by omega) (by omega)) dL_law_615 ?_
  rw [nI_clamp (by omega)]
  refine lv_aload_n hx hb dL_law_616 rfl (lv_at hl 3 rfl) ?_
  obtain ⟨k2, r1, w3, hq4, hf⟩ := qbdn_s hf
  refine q_callL (As := [.ref (ad 228), .int (xs (i + 1)), .ref o]) (rest := []) hC hR (mL_add (qJ hC) hst hq4) hO ho qk_723 qk_724 qk_57 qkl_725 qhd_L_add ⟨Nat.le_of_ble_eq_true rfl, Nat.le_of_ble_eq_true rfl⟩ hl.1 rfl (Nat.le_of_ble_eq_true rfl) dL_law_617 ⟨by show _ ≤ room_1.cells; omega, by show _ ≤ room_1.slots; omega⟩ (fun _ H locs hPA hz hk hO1 hR => ?_)
  have hOD := qOut_on2 hOD hne hz hk
  obtain ⟨f5, rfl, e6⟩ := hPA
  have hO := hO1
  refine lv_istore (lv' := [(6, .int k2), (0, .ref b), (1, .ref (ad 228)), (2, .ref (ad 238)), (3, .ref o), (4, .ref oD), (5, .int (nI i))]) hx hb dL_law_620 hl (by decide) rfl (fun ls hl => ?_)
  refine lv_aload_n hx hb dL_law_622 rfl (lv_at hl 3 rfl) ?_
  refine lv_aload_n hx hb dL_law_623 rfl (lv_at hl 1 rfl) ?_
  refine lv_iload hx hb dL_law_624 (lv_at hl 6 rfl) ?_
  refine lv_iconst (v := 1) hx hb dL_law_626 (by decide) ?_
  refine lv_iadd hx hb dL_law_627 ?_
  rw [show nI i + 1 = nI (i + 1) from nI_add i 1]
  refine va_sld hx hb hX hbl hbA hR.2 (vp_in_nI (by omega) (by omega)) dL_law_628 ?_
  rw [nI_clamp (by omega)]
  obtain ⟨b7, w9, hq8, hf⟩ := qbd2_s hf
  refine q_ki (As := [.int (xs (i + 1))]) (rest := []) hC hR (mX6_add (qJ hC) hq8) (by decide) (qsh_238 G ad _) rfl qk_1309 qk_1310 qk_1311 qk_64 qk_1312 qhd_X6_add ⟨Nat.le_of_ble_eq_true rfl, Nat.le_of_ble_eq_true rfl⟩ hl.1 rfl (Nat.le_of_ble_eq_true rfl) dL_law_629 ⟨by show _ ≤ room_1.cells; omega, by show _ ≤ room_1.slots; omega⟩ (fun H locs hz hk hR => ?_)
  have hO := qX_on qOut_k hO hz hk
  have hOD := qX_on qOut_k hOD hz hk
  refine lv_istore (lv' := [(7, .int b7), (6, .int k2), (0, .ref b), (1, .ref (ad 228)), (2, .ref (ad 238)), (3, .ref o), (4, .ref oD), (5, .int (nI i))]) hx hb dL_law_632 hl (by decide) rfl (fun ls hl => ?_)
  refine lv_aload_n hx hb dL_law_634 rfl (lv_at hl 4 rfl) ?_
  obtain ⟨b10, hq11, hf⟩ := qbd_s hf
  refine q_ki (As := []) (rest := []) hC hR (mX6_thrown (qJ hC) hq11) (by decide) (qsh_238 G ad _) rfl qk_1189 qk_1190 qk_1191 qk_64 qk_1192 qhd_X6_thrown ⟨Nat.le_of_ble_eq_true rfl, Nat.le_of_ble_eq_true rfl⟩ hl.1 rfl (Nat.le_of_ble_eq_true rfl) dL_law_635 ⟨by show _ ≤ room_1.cells; omega, by show _ ≤ room_1.slots; omega⟩ (fun H locs hz hk hR => ?_)
  have hO := qX_on qOut_k hO hz hk
  have hOD := qX_on qOut_k hOD hz hk
  refine lv_iload hx hb dL_law_638 (lv_at hl 1 rfl) ?_
  obtain ⟨g12, hf⟩ := qgd hf
  refine lv_icmp_eq (tgt := 645) hx hb dL_law_640 (by decide) (fun _ => ?_) (fun c_1 => absurd g12 c_1)
  refine lv_iload hx hb dL_law_645 (lv_at hl 1 rfl) ?_
  refine lv_if_ne (tgt := 662) hx hb dL_law_647 (by decide) (fun c13 => ?_) (fun c13 => ?_)
  · have hf := qif_f hf c13
    refine lv_goto (tgt := 2120) hx hb dL_law_662 (by decide) ?_
    have hwe := qso hf
    subst hwe
    exact kk _ _ _ _ _ _ _ (by omega) (by omega) hR hO hOD (lv_sub hl [2, 3, 4, 5, 6, 7] rfl)
  · have hf := qif_t hf c13
    obtain ⟨g14, hf⟩ := qgd hf
    have hwe := qso hf
    subst hwe
    subst g14
    refine lv_aload_n hx hb dL_law_650 rfl (lv_at hl 5 rfl) ?_
    refine lv_iconst (v := 0) hx hb dL_law_651 (by decide) ?_
    refine q_lald hC hO (e6 c13) dL_law_652 ?_
    refine lv_iload hx hb dL_law_653 (lv_at hl 0 rfl) ?_
    refine lv_i2l hx hb dL_law_655 rfl ?_
    refine W.lcmp hx hb dL_law_656 ?_
    rw [qcmp0]
    refine lv_if_eq (tgt := 662) hx hb dL_law_657 (by decide) (fun _ => ?_) (fun c_1 => absurd rfl c_1)
    refine lv_goto (tgt := 2120) hx hb dL_law_662 (by decide) ?_
    exact kk _ _ _ _ _ _ _ (by omega) (by omega) hR hO hOD (lv_sub hl [2, 3, 4, 5, 6, 7] rfl)
def qs_8 (w : qMem) (a1 a2 a3 : Int32) : Option qMem :=
  qbdn (fL_perform w) fun (k2 : Int32) (r1 : Int32) (w3 : qMem) =>
  qbd2 (fX6_perform w3) fun (b7 : Int32) (w9 : qMem) =>
  qbd (fX6_thrown w9) fun (b10 : Int32) =>
  if b10 = k2 then
  if k2 = 0 then
    if r1 = b7 then
    some w9
    else none
  else
    some w9
  else none

set_option maxHeartbeats 4000000 in
set_option maxRecDepth 100000 in
theorem law_8 {p : Program} {l : Launch} {e : Env} {s : State} {m : MethodId} {args : Array Value} {below : List Frame} {meth : Method} {c0 : Code} {Q : State → Prop} {D : va_G} {G : Nat → ClassId} {ad : Nat → Nat} {b L o oD : Nat} {xs : Nat → Int32} {cl cd : ClassId} (hW : qLw p l s m args meth c0 D G ad b L o oD xs) {w wF : qMem} {i : Nat} (hi : i + 3 < L) {H : Heap} {locs : List Loc} {ls : Array Slot} {cc cs : Nat} {f0 : Nat → Int64} {g0 : Nat → UInt64} (hR : qRp D G ad s w H locs) (hO : qOut o cl .long (1, .inr (.inl f0)) (qAdr ad H.size) s H) (hOD : qOut oD cd .double (1, .inr (.inr (.inr (.inl g0)))) (qAdr ad H.size) s H) (hl : lv_has ls 9 (qlvs b o oD i ad)) (hf : qs_8 w (xs (i + 1)) (xs (i + 2)) (xs (i + 3)) = some wF) (hcc : cc + 320 ≤ room_1.cells) (hcs : cs + 2000 ≤ room_1.slots) (kk : ∀ (H : Heap) (locs : List Loc) (ls : Array Slot) (f0 : Nat → Int64) (g0 : Nat → UInt64) (cc1 cs1 : Nat), cc1 ≤ cc + 320 → cs1 ≤ cs + 2000 → qRp D G ad s wF H locs → qOut o cl .long (1, .inr (.inl f0)) (qAdr ad H.size) s H → qOut oD cd .double (1, .inr (.inr (.inr (.inl g0)))) (qAdr ad H.size) s H → lv_has ls 9 (qlvs b o oD i ad) → W p l e room_1 s m args below meth c0 H locs cc1 cs1 Q (F0 m 2120 ls [])) : W p l e room_1 s m args below meth c0 H locs cc cs Q (F0 m 665 ls []) := by
  obtain ⟨hC, hst, hX, hbl, hbA, hL, ho, hoD, hne⟩ := hW
  have hx := hC.1
  have hb := hC.2.1
  have hl : lv_has ls 9 [(0, .ref b), (1, .ref (ad 228)), (2, .ref (ad 238)), (3, .ref o), (4, .ref oD), (5, .int (nI i))] := hl
  unfold qs_8 at hf
  refine lv_aload_n hx hb dL_law_665 rfl (lv_at hl 1 rfl) ?_
  refine lv_aload_n hx hb dL_law_666 rfl (lv_at hl 3 rfl) ?_
  obtain ⟨k2, r1, w3, hq4, hf⟩ := qbdn_s hf
  refine q_callL (As := [.ref (ad 228), .ref o]) (rest := []) hC hR (mL_perform (qJ hC) hst hq4) hO ho qk_730 qk_731 qk_57 qkl_732 qhd_L_perform ⟨Nat.le_of_ble_eq_true rfl, Nat.le_of_ble_eq_true rfl⟩ hl.1 rfl (Nat.le_of_ble_eq_true rfl) dL_law_667 ⟨by show _ ≤ room_1.cells; omega, by show _ ≤ room_1.slots; omega⟩ (fun _ H locs hPA hz hk hO1 hR => ?_)
  have hOD := qOut_on2 hOD hne hz hk
  obtain ⟨f5, rfl, e6⟩ := hPA
  have hO := hO1
  refine lv_istore (lv' := [(6, .int k2), (0, .ref b), (1, .ref (ad 228)), (2, .ref (ad 238)), (3, .ref o), (4, .ref oD), (5, .int (nI i))]) hx hb dL_law_670 hl (by decide) rfl (fun ls hl => ?_)
  refine lv_aload_n hx hb dL_law_672 rfl (lv_at hl 3 rfl) ?_
  obtain ⟨b7, w9, hq8, hf⟩ := qbd2_s hf
  refine q_ki (As := []) (rest := []) hC hR (mX6_perform (qJ hC) hq8) (by decide) (qsh_238 G ad _) rfl qk_1317 qk_1318 qk_1319 qk_64 qk_1320 qhd_X6_perform ⟨Nat.le_of_ble_eq_true rfl, Nat.le_of_ble_eq_true rfl⟩ hl.1 rfl (Nat.le_of_ble_eq_true rfl) dL_law_673 ⟨by show _ ≤ room_1.cells; omega, by show _ ≤ room_1.slots; omega⟩ (fun H locs hz hk hR => ?_)
  have hO := qX_on qOut_k hO hz hk
  have hOD := qX_on qOut_k hOD hz hk
  refine lv_istore (lv' := [(7, .int b7), (6, .int k2), (0, .ref b), (1, .ref (ad 228)), (2, .ref (ad 238)), (3, .ref o), (4, .ref oD), (5, .int (nI i))]) hx hb dL_law_676 hl (by decide) rfl (fun ls hl => ?_)
  refine lv_aload_n hx hb dL_law_678 rfl (lv_at hl 4 rfl) ?_
  obtain ⟨b10, hq11, hf⟩ := qbd_s hf
  refine q_ki (As := []) (rest := []) hC hR (mX6_thrown (qJ hC) hq11) (by decide) (qsh_238 G ad _) rfl qk_1189 qk_1190 qk_1191 qk_64 qk_1192 qhd_X6_thrown ⟨Nat.le_of_ble_eq_true rfl, Nat.le_of_ble_eq_true rfl⟩ hl.1 rfl (Nat.le_of_ble_eq_true rfl) dL_law_679 ⟨by show _ ≤ room_1.cells; omega, by show _ ≤ room_1.slots; omega⟩ (fun H locs hz hk hR => ?_)
  have hO := qX_on qOut_k hO hz hk
  have hOD := qX_on qOut_k hOD hz hk
  refine lv_iload hx hb dL_law_682 (lv_at hl 1 rfl) ?_
  obtain ⟨g12, hf⟩ := qgd hf
  refine lv_icmp_eq (tgt := 689) hx hb dL_law_684 (by decide) (fun _ => ?_) (fun c_1 => absurd g12 c_1)
  refine lv_iload hx hb dL_law_689 (lv_at hl 1 rfl) ?_
  refine lv_if_ne (tgt := 706) hx hb dL_law_691 (by decide) (fun c13 => ?_) (fun c13 => ?_)
  · have hf := qif_f hf c13
    refine lv_goto (tgt := 2120) hx hb dL_law_706 (by decide) ?_
    have hwe := qso hf
    subst hwe
    exact kk _ _ _ _ _ _ _ (by omega) (by omega) hR hO hOD (lv_sub hl [2, 3, 4, 5, 6, 7] rfl)
  · have hf := qif_t hf c13
    obtain ⟨g14, hf⟩ := qgd hf
    have hwe := qso hf
    subst hwe
    subst g14
    refine lv_aload_n hx hb dL_law_694 rfl (lv_at hl 5 rfl) ?_
    refine lv_iconst (v := 0) hx hb dL_law_695 (by decide) ?_
    refine q_lald hC hO (e6 c13) dL_law_696 ?_
    refine lv_iload hx hb dL_law_697 (lv_at hl 0 rfl) ?_
    refine lv_i2l hx hb dL_law_699 rfl ?_
    refine W.lcmp hx hb dL_law_700 ?_
    rw [qcmp0]
    refine lv_if_eq (tgt := 706) hx hb dL_law_701 (by decide) (fun _ => ?_) (fun c_1 => absurd rfl c_1)
    refine lv_goto (tgt := 2120) hx hb dL_law_706 (by decide) ?_
    exact kk _ _ _ _ _ _ _ (by omega) (by omega) hR hO hOD (lv_sub hl [2, 3, 4, 5, 6, 7] rfl)
def qs_9 (w : qMem) (a1 a2 a3 : Int32) : Option qMem :=
  qbd2 (fX5_quiet w) fun (b1 : Int32) (w3 : qMem) =>
  qbd2 (fX6_quiet w3) fun (b4 : Int32) (w6 : qMem) =>
  if b1 = b4 then
  some w6
  else none

set_option maxHeartbeats 4000000 in
set_option maxRecDepth 100000 in
theorem law_9 {p : Program} {l : Launch} {e : Env} {s : State} {m : MethodId} {args : Array Value} {below : List Frame} {meth : Method} {c0 : Code} {Q : State → Prop} {D : va_G} {G : Nat → ClassId} {ad : Nat → Nat} {b L o oD : Nat} {xs : Nat → Int32} {cl cd : ClassId} (hW : qLw p l s m args meth c0 D G ad b L o oD xs) {w wF : qMem} {i : Nat} (hi : i + 3 < L) {H : Heap} {locs : List Loc} {ls : Array Slot} {cc cs : Nat} {f0 : Nat → Int64} {g0 : Nat → UInt64} (hR : qRp D G ad s w H locs) (hO : qOut o cl .long (1, .inr (.inl f0)) (qAdr ad H.size) s H) (hOD : qOut oD cd .double (1, .inr (.inr (.inr (.inl g0)))) (qAdr ad H.size) s H) (hl : lv_has ls 9 (qlvs b o oD i ad)) (hf : qs_9 w (xs (i + 1)) (xs (i + 2)) (xs (i + 3)) = some wF) (hcc : cc + 320 ≤ room_1.cells) (hcs : cs + 2000 ≤ room_1.slots) (kk : ∀ (H : Heap) (locs : List Loc) (ls : Array Slot) (f0 : Nat → Int64) (g0 : Nat → UInt64) (cc1 cs1 : Nat), cc1 ≤ cc + 320 → cs1 ≤ cs + 2000 → qRp D G ad s wF H locs → qOut o cl .long (1, .inr (.inl f0)) (qAdr ad H.size) s H → qOut oD cd .double (1, .inr (.inr (.inr (.inl g0)))) (qAdr ad H.size) s H → lv_has ls 9 (qlvs b o oD i ad) → W p l e room_1 s m args below meth c0 H locs cc1 cs1 Q (F0 m 2120 ls [])) : W p l e room_1 s m args below meth c0 H locs cc cs Q (F0 m 709 ls []) := by
  obtain ⟨hC, hst, hX, hbl, hbA, hL, ho, hoD, hne⟩ := hW
  have hx := hC.1
  have hb := hC.2.1
  have hl : lv_has ls 9 [(0, .ref b), (1, .ref (ad 228)), (2, .ref (ad 238)), (3, .ref o), (4, .ref oD), (5, .int (nI i))] := hl
  unfold qs_9 at hf
  refine lv_aload_n hx hb dL_law_709 rfl (lv_at hl 1 rfl) ?_
  obtain ⟨b1, w3, hq2, hf⟩ := qbd2_s hf
  refine q_ki (As := []) (rest := []) hC hR (mX5_quiet (qJ hC) hq2) (by decide) (qsh_228 G ad _) rfl qk_458 qk_459 qk_460 qk_58 qk_461 qhd_X5_quiet ⟨Nat.le_of_ble_eq_true rfl, Nat.le_of_ble_eq_true rfl⟩ hl.1 rfl (Nat.le_of_ble_eq_true rfl) dL_law_710 ⟨by show _ ≤ room_1.cells; omega, by show _ ≤ room_1.slots; omega⟩ (fun H locs hz hk hR => ?_)
  have hO := qX_on qOut_k hO hz hk
  have hOD := qX_on qOut_k hOD hz hk
  refine lv_aload_n hx hb dL_law_713 rfl (lv_at hl 2 rfl) ?_
  obtain ⟨b4, w6, hq5, hf⟩ := qbd2_s hf
  refine q_ki (As := []) (rest := [.int b1]) hC hR (mX6_quiet (qJ hC) hq5) (by decide) (qsh_238 G ad _) rfl qk_1329 qk_1330 qk_1331 qk_64 qk_1332 qhd_X6_quiet ⟨Nat.le_of_ble_eq_true rfl, Nat.le_of_ble_eq_true rfl⟩ hl.1 rfl (Nat.le_of_ble_eq_true rfl) dL_law_714 ⟨by show _ ≤ room_1.cells; omega, by show _ ≤ room_1.slots; omega⟩ (fun H locs hz hk hR => ?_)
  have hO := qX_on qOut_k hO hz hk
  have hOD := qX_on qOut_k hOD hz hk
  obtain ⟨g7, hf⟩ := qgd hf
  refine lv_icmp_eq (tgt := 2120) hx hb dL_law_717 (by decide) (fun _ => ?_) (fun c_1 => absurd g7 c_1)
  have hwe := qso hf
  subst hwe
  exact kk _ _ _ _ _ _ _ (by omega) (by omega) hR hO hOD (lv_sub hl [0, 1, 2, 3, 4, 5] rfl)
def qs_10 (w : qMem) (a1 a2 a3 : Int32) : Option qMem :=
  qbdn (fL_propOf w a1 a2) fun (k2 : Int32) (r1 : Int32) (w3 : qMem) =>
  qbd2 (fX6_propOf w3 a1 a2) fun (b7 : Int32) (w9 : qMem) =>
  qbd (fX6_thrown w9) fun (b10 : Int32) =>
  if b10 = k2 then
  if k2 = 0 then
    if r1 = b7 then
    some w9
    else none
  else
    some w9
  else none

set_option maxHeartbeats 4000000 in
set_option maxRecDepth 100000 in
theorem law_10 {p : Program} {l : Launch} {e : Env} {s : State} {m : MethodId} {args : Array Value} {below : List Frame} {meth : Method} {c0 : Code} {Q : State → Prop} {D : va_G} {G : Nat → ClassId} {ad : Nat → Nat} {b L o oD : Nat} {xs : Nat → Int32} {cl cd : ClassId} (hW : qLw p l s m args meth c0 D G ad b L o oD xs) {w wF : qMem} {i : Nat} (hi : i + 3 < L) {H : Heap} {locs : List Loc} {ls : Array Slot} {cc cs : Nat} {f0 : Nat → Int64} {g0 : Nat → UInt64} (hR : qRp D G ad s w H locs) (hO : qOut o cl .long (1, .inr (.inl f0)) (qAdr ad H.size) s H) (hOD : qOut oD cd .double (1, .inr (.inr (.inr (.inl g0)))) (qAdr ad H.size) s H) (hl : lv_has ls 9 (qlvs b o oD i ad)) (hf : qs_10 w (xs (i + 1)) (xs (i + 2)) (xs (i + 3)) = some wF) (hcc : cc + 320 ≤ room_1.cells) (hcs : cs + 2000 ≤ room_1.slots) (kk : ∀ (H : Heap) (locs : List Loc) (ls : Array Slot) (f0 : Nat → Int64) (g0 : Nat → UInt64) (cc1 cs1 : Nat), cc1 ≤ cc + 320 → cs1 ≤ cs + 2000 → qRp D G ad s wF H locs → qOut o cl .long (1, .inr (.inl f0)) (qAdr ad H.size) s H → qOut oD cd .double (1, .inr (.inr (.inr (.inl g0)))) (qAdr ad H.size) s H → lv_has ls 9 (qlvs b o oD i ad) → W p l e room_1 s m args below meth c0 H locs cc1 cs1 Q (F0 m 2120 ls [])) : W p l e room_1 s m args below meth c0 H locs cc cs Q (F0 m 722 ls []) := by
  obtain ⟨hC, hst, hX, hbl, hbA, hL, ho, hoD, hne⟩ := hW
  have hx := hC.1
  have hb := hC.2.1
  have hl : lv_has ls 9 [(0, .ref b), (1, .ref (ad 228)), (2, .ref (ad 238)), (3, .ref o), (4, .ref oD), (5, .int (nI i))] := hl
  unfold qs_10 at hf
  refine lv_aload_n hx hb dL_law_722 rfl (lv_at hl 1 rfl) ?_
  refine lv_aload_n hx hb dL_law_723 rfl (lv_at hl 0 rfl) ?_
  refine lv_iload hx hb dL_law_724 (lv_at hl 5 rfl) ?_
  refine lv_iconst (v := 1) hx hb dL_law_726 (by decide) ?_
  refine lv_iadd hx hb dL_law_727 ?_
  rw [show nI i + 1 = nI (i + 1) from nI_add i 1]
  refine va_sld hx hb hX hbl hbA hR.2 (vp_in_nI (by omega) (by omega)) dL_law_728 ?_
  rw [nI_clamp (by omega)]
  refine lv_aload_n hx hb dL_law_729 rfl (lv_at hl 0 rfl) ?_
  refine lv_iload hx hb dL_law_730 (lv_at hl 5 rfl) ?_
  refine lv_iconst (v := 2) hx hb dL_law_732 (by decide) ?_
  refine lv_iadd hx hb dL_law_733 ?_
  rw [show nI i + 2 = nI (i + 2) from nI_add i 2]
  refine va_sld hx hb hX hbl hbA hR.2 (vp_in_nI (by omega) (by omega)) dL_law_734 ?_
  rw [nI_clamp (by omega)]
  refine lv_aload_n hx hb dL_law_735 rfl (lv_at hl 3 rfl) ?_
  obtain ⟨k2, r1, w3, hq4, hf⟩ := qbdn_s hf
  refine q_callL (As := [.ref (ad 228), .int (xs (i + 1)), .int (xs (i + 2)), .ref o]) (rest := []) hC hR (mL_propOf (qJ hC) hst hq4) hO ho qk_738 qk_739 qk_57 qkl_740 qhd_L_propOf ⟨Nat.le_of_ble_eq_true rfl, Nat.le_of_ble_eq_true rfl⟩ hl.1 rfl (Nat.le_of_ble_eq_true rfl) dL_law_736 ⟨by show _ ≤ room_1.cells; omega, by show _ ≤ room_1.slots; omega⟩ (fun _ H locs hPA hz hk hO1 hR => ?_)
  have hOD := qOut_on2 hOD hne hz hk
  obtain ⟨f5, rfl, e6⟩ := hPA
  have hO := hO1
  refine lv_istore (lv' := [(6, .int k2), (0, .ref b), (1, .ref (ad 228)), (2, .ref (ad 238)), (3, .ref o), (4, .ref oD), (5, .int (nI i))]) hx hb dL_law_739 hl (by decide) rfl (fun ls hl => ?_)
  refine lv_aload_n hx hb dL_law_741 rfl (lv_at hl 3 rfl) ?_
  refine lv_aload_n hx hb dL_law_742 rfl (lv_at hl 1 rfl) ?_
  refine lv_iload hx hb dL_law_743 (lv_at hl 6 rfl) ?_
  refine lv_iconst (v := 1) hx hb dL_law_745 (by decide) ?_
  refine lv_iadd hx hb dL_law_746 ?_
  rw [show nI i + 1 = nI (i + 1) from nI_add i 1]
  refine va_sld hx hb hX hbl hbA hR.2 (vp_in_nI (by omega) (by omega)) dL_law_747 ?_
  rw [nI_clamp (by omega)]
  refine lv_aload_n hx hb dL_law_748 rfl (lv_at hl 1 rfl) ?_
  refine lv_iload hx hb dL_law_749 (lv_at hl 6 rfl) ?_
  refine lv_iconst (v := 2) hx hb dL_law_751 (by decide) ?_
  refine lv_iadd hx hb dL_law_752 ?_
  rw [show nI i + 2 = nI (i + 2) from nI_add i 2]
  refine va_sld hx hb hX hbl hbA hR.2 (vp_in_nI (by omega) (by omega)) dL_law_753 ?_
  rw [nI_clamp (by omega)]
  obtain ⟨b7, w9, hq8, hf⟩ := qbd2_s hf
  refine q_ki (As := [.int (xs (i + 1)), .int (xs (i + 2))]) (rest := []) hC hR (mX6_propOf (qJ hC) hq8) (by decide) (qsh_238 G ad _) rfl qk_1337 qk_1338 qk_1339 qk_64 qk_1340 qhd_X6_propOf ⟨Nat.le_of_ble_eq_true rfl, Nat.le_of_ble_eq_true rfl⟩ hl.1 rfl (Nat.le_of_ble_eq_true rfl) dL_law_754 ⟨by show _ ≤ room_1.cells; omega, by show _ ≤ room_1.slots; omega⟩ (fun H locs hz hk hR => ?_)
  have hO := qX_on qOut_k hO hz hk
  have hOD := qX_on qOut_k hOD hz hk
  refine lv_istore (lv' := [(7, .int b7), (6, .int k2), (0, .ref b), (1, .ref (ad 228)), (2, .ref (ad 238)), (3, .ref o), (4, .ref oD), (5, .int (nI i))]) hx hb dL_law_757 hl (by decide) rfl (fun ls hl => ?_)
  refine lv_aload_n hx hb dL_law_759 rfl (lv_at hl 4 rfl) ?_
  obtain ⟨b10, hq11, hf⟩ := qbd_s hf
  refine q_ki (As := []) (rest := []) hC hR (mX6_thrown (qJ hC) hq11) (by decide) (qsh_238 G ad _) rfl qk_1189 qk_1190 qk_1191 qk_64 qk_1192 qhd_X6_thrown ⟨Nat.le_of_ble_eq_true rfl, Nat.le_of_ble_eq_true rfl⟩ hl.1 rfl (Nat.le_of_ble_eq_true rfl) dL_law_760 ⟨by show _ ≤ room_1.cells; omega, by show _ ≤ room_1.slots; omega⟩ (fun H locs hz hk hR => ?_)
  have hO := qX_on qOut_k hO hz hk
  have hOD := qX_on qOut_k hOD hz hk
  refine lv_iload hx hb dL_law_763 (lv_at hl 1 rfl) ?_
  obtain ⟨g12, hf⟩ := qgd hf
  refine lv_icmp_eq (tgt := 770) hx hb dL_law_765 (by decide) (fun _ => ?_) (fun c_1 => absurd g12 c_1)
  refine lv_iload hx hb dL_law_770 (lv_at hl 1 rfl) ?_
  refine lv_if_ne (tgt := 787) hx hb dL_law_772 (by decide) (fun c13 => ?_) (fun c13 => ?_)
  · have hf := qif_f hf c13
    refine lv_goto (tgt := 2120) hx hb dL_law_787 (by decide) ?_
    have hwe := qso hf
    subst hwe
    exact kk _ _ _ _ _ _ _ (by omega) (by omega) hR hO hOD (lv_sub hl [2, 3, 4, 5, 6, 7] rfl)
  · have hf := qif_t hf c13
    obtain ⟨g14, hf⟩ := qgd hf
    have hwe := qso hf
    subst hwe
    subst g14
    refine lv_aload_n hx hb dL_law_775 rfl (lv_at hl 5 rfl) ?_
    refine lv_iconst (v := 0) hx hb dL_law_776 (by decide) ?_
    refine q_lald hC hO (e6 c13) dL_law_777 ?_
    refine lv_iload hx hb dL_law_778 (lv_at hl 0 rfl) ?_
    refine lv_i2l hx hb dL_law_780 rfl ?_
    refine W.lcmp hx hb dL_law_781 ?_
    rw [qcmp0]
    refine lv_if_eq (tgt := 787) hx hb dL_law_782 (by decide) (fun _ => ?_) (fun c_1 => absurd rfl c_1)
    refine lv_goto (tgt := 2120) hx hb dL_law_787 (by decide) ?_
    exact kk _ _ _ _ _ _ _ (by omega) (by omega) hR hO hOD (lv_sub hl [2, 3, 4, 5, 6, 7] rfl)
def qs_11 (w : qMem) (a1 a2 a3 : Int32) : Option qMem :=
  qbdn (fL_programme w a1) fun (k2 : Int32) (r1 : Int32) (w3 : qMem) =>
  qbd2 (fX6_programme w3 a1) fun (b7 : Int32) (w9 : qMem) =>
  qbd (fX6_thrown w9) fun (b10 : Int32) =>
  if b10 = k2 then
  if k2 = 0 then
    if r1 = b7 then
    some w9
    else none
  else
    some w9
  else none

set_option maxHeartbeats 4000000 in
set_option maxRecDepth 100000 in
theorem law_11 {p : Program} {l : Launch} {e : Env} {s : State} {m : MethodId} {args : Array Value} {below : List Frame} {meth : Method} {c0 : Code} {Q : State → Prop} {D : va_G} {G : Nat → ClassId} {ad : Nat → Nat} {b L o oD : Nat} {xs : Nat → Int32} {cl cd : ClassId} (hW : qLw p l s m args meth c0 D G ad b L o oD xs) {w wF : qMem} {i : Nat} (hi : i + 3 < L) {H : Heap} {locs : List Loc} {ls : Array Slot} {cc cs : Nat} {f0 : Nat → Int64} {g0 : Nat → UInt64} (hR : qRp D G ad s w H locs) (hO : qOut o cl .long (1, .inr (.inl f0)) (qAdr ad H.size) s H) (hOD : qOut oD cd .double (1, .inr (.inr (.inr (.inl g0)))) (qAdr ad H.size) s H) (hl : lv_has ls 9 (qlvs b o oD i ad)) (hf : qs_11 w (xs (i + 1)) (xs (i + 2)) (xs (i + 3)) = some wF) (hcc : cc + 320 ≤ room_1.cells) (hcs : cs + 2000 ≤ room_1.slots) (kk : ∀ (H : Heap) (locs : List Loc) (ls : Array Slot) (f0 : Nat → Int64) (g0 : Nat → UInt64) (cc1 cs1 : Nat), cc1 ≤ cc + 320 → cs1 ≤ cs + 2000 → qRp D G ad s wF H locs → qOut o cl .long (1, .inr (.inl f0)) (qAdr ad H.size) s H → qOut oD cd .double (1, .inr (.inr (.inr (.inl g0)))) (qAdr ad H.size) s H → lv_has ls 9 (qlvs b o oD i ad) → W p l e room_1 s m args below meth c0 H locs cc1 cs1 Q (F0 m 2120 ls [])) : W p l e room_1 s m args below meth c0 H locs cc cs Q (F0 m 790 ls []) := by
  obtain ⟨hC, hst, hX, hbl, hbA, hL, ho, hoD, hne⟩ := hW
  have hx := hC.1
  have hb := hC.2.1
  have hl : lv_has ls 9 [(0, .ref b), (1, .ref (ad 228)), (2, .ref (ad 238)), (3, .ref o), (4, .ref oD), (5, .int (nI i))] := hl
  unfold qs_11 at hf
  refine lv_aload_n hx hb dL_law_790 rfl (lv_at hl 1 rfl) ?_
  refine lv_aload_n hx hb dL_law_791 rfl (lv_at hl 0 rfl) ?_
  refine lv_iload hx hb dL_law_792 (lv_at hl 5 rfl) ?_
  refine lv_iconst (v := 1) hx hb dL_law_794 (by decide) ?_
  refine lv_iadd hx hb dL_law_795 ?_
  rw [show nI i + 1 = nI (i + 1) from nI_add i 1]
  refine va_sld hx hb hX hbl hbA hR.2 (vp_in_nI (by omega) (by omega)) dL_law_796 ?_
  rw [nI_clamp (by omega)]
  refine lv_aload_n hx hb dL_law_797 rfl (lv_at hl 3 rfl) ?_
  obtain ⟨k2, r1, w3, hq4, hf⟩ := qbdn_s hf
  refine q_callL (As := [.ref (ad 228), .int (xs (i + 1)), .ref o]) (rest := []) hC hR (mL_programme (qJ hC) hst hq4) hO ho qk_750 qk_751 qk_57 qkl_752 qhd_L_programme ⟨Nat.le_of_ble_eq_true rfl, Nat.le_of_ble_eq_true rfl⟩ hl.1 rfl (Nat.le_of_ble_eq_true rfl) dL_law_798 ⟨by show _ ≤ room_1.cells; omega, by show _ ≤ room_1.slots; omega⟩ (fun _ H locs hPA hz hk hO1 hR => ?_)
  have hOD := qOut_on2 hOD hne hz hk
  obtain ⟨f5, rfl, e6⟩ := hPA
  have hO := hO1
  refine lv_istore (lv' := [(6, .int k2), (0, .ref b), (1, .ref (ad 228)), (2, .ref (ad 238)), (3, .ref o), (4, .ref oD), (5, .int (nI i))]) hx hb dL_law_801 hl (by decide) rfl (fun ls hl => ?_)
  refine lv_aload_n hx hb dL_law_803 rfl (lv_at hl 3 rfl) ?_
  refine lv_aload_n hx hb dL_law_804 rfl (lv_at hl 1 rfl) ?_
  refine lv_iload hx hb dL_law_805 (lv_at hl 6 rfl) ?_
  refine lv_iconst (v := 1) hx hb dL_law_807 (by decide) ?_
  refine lv_iadd hx hb dL_law_808 ?_
  rw [show nI i + 1 = nI (i + 1) from nI_add i 1]
  refine va_sld hx hb hX hbl hbA hR.2 (vp_in_nI (by omega) (by omega)) dL_law_809 ?_
  rw [nI_clamp (by omega)]
  obtain ⟨b7, w9, hq8, hf⟩ := qbd2_s hf
  refine q_ki (As := [.int (xs (i + 1))]) (rest := []) hC hR (mX6_programme (qJ hC) hq8) (by decide) (qsh_238 G ad _) rfl qk_1341 qk_1342 qk_1343 qk_64 qk_1344 qhd_X6_programme ⟨Nat.le_of_ble_eq_true rfl, Nat.le_of_ble_eq_true rfl⟩ hl.1 rfl (Nat.le_of_ble_eq_true rfl) dL_law_810 ⟨by show _ ≤ room_1.cells; omega, by show _ ≤ room_1.slots; omega⟩ (fun H locs hz hk hR => ?_)
  have hO := qX_on qOut_k hO hz hk
  have hOD := qX_on qOut_k hOD hz hk
  refine lv_istore (lv' := [(7, .int b7), (6, .int k2), (0, .ref b), (1, .ref (ad 228)), (2, .ref (ad 238)), (3, .ref o), (4, .ref oD), (5, .int (nI i))]) hx hb dL_law_813 hl (by decide) rfl (fun ls hl => ?_)
  refine lv_aload_n hx hb dL_law_815 rfl (lv_at hl 4 rfl) ?_
  obtain ⟨b10, hq11, hf⟩ := qbd_s hf
  refine q_ki (As := []) (rest := []) hC hR (mX6_thrown (qJ hC) hq11) (by decide) (qsh_238 G ad _) rfl qk_1189 qk_1190 qk_1191 qk_64 qk_1192 qhd_X6_thrown ⟨Nat.le_of_ble_eq_true rfl, Nat.le_of_ble_eq_true rfl⟩ hl.1 rfl (Nat.le_of_ble_eq_true rfl) dL_law_816 ⟨by show _ ≤ room_1.cells; omega, by show _ ≤ room_1.slots; omega⟩ (fun H locs hz hk hR => ?_)
  have hO := qX_on qOut_k hO hz hk
  have hOD := qX_on qOut_k hOD hz hk
  refine lv_iload hx hb dL_law_819 (lv_at hl 1 rfl) ?_
  obtain ⟨g12, hf⟩ := qgd hf
  refine lv_icmp_eq (tgt := 826) hx hb dL_law_821 (by decide) (fun _ => ?_) (fun c_1 => absurd g12 c_1)
  refine lv_iload hx hb dL_law_826 (lv_at hl 1 rfl) ?_
  refine lv_if_ne (tgt := 843) hx hb dL_law_828 (by decide) (fun c13 => ?_) (fun c13 => ?_)
  · have hf := qif_f hf c13
    refine lv_goto (tgt := 2120) hx hb dL_law_843 (by decide) ?_
    have hwe := qso hf
    subst hwe
    exact kk _ _ _ _ _ _ _ (by omega) (by omega) hR hO hOD (lv_sub hl [2, 3, 4, 5, 6, 7] rfl)
  · have hf := qif_t hf c13
    obtain ⟨g14, hf⟩ := qgd hf
    have hwe := qso hf
    subst hwe
    subst g14
    refine lv_aload_n hx hb dL_law_831 rfl (lv_at hl 5 rfl) ?_
    refine lv_iconst (v := 0) hx hb dL_law_832 (by decide) ?_
    refine q_lald hC hO (e6 c13) dL_law_833 ?_
    refine lv_iload hx hb dL_law_834 (lv_at hl 0 rfl) ?_
    refine lv_i2l hx hb dL_law_836 rfl ?_
    refine W.lcmp hx hb dL_law_837 ?_
    rw [qcmp0]
    refine lv_if_eq (tgt := 843) hx hb dL_law_838 (by decide) (fun _ => ?_) (fun c_1 => absurd rfl c_1)
    refine lv_goto (tgt := 2120) hx hb dL_law_843 (by decide) ?_
    exact kk _ _ _ _ _ _ _ (by omega) (by omega) hR hO hOD (lv_sub hl [2, 3, 4, 5, 6, 7] rfl)
def qs_12 (w : qMem) (a1 a2 a3 : Int32) : Option qMem :=
  qbdn (fL_on w a1 a2 (if a3 = 0 then 0 else 1)) fun (k2 : Int32) (r1 : Int32) (w3 : qMem) =>
  qbd2 (fX6_on w3 a1 a2 (if a3 = 0 then 0 else 1)) fun (b7 : Int32) (w9 : qMem) =>
  qbd (fX6_thrown w9) fun (b10 : Int32) =>
  if b10 = k2 then
  if k2 = 0 then
    if r1 = b7 then
    some w9
    else none
  else
    some w9
  else none

set_option maxHeartbeats 4000000 in
set_option maxRecDepth 100000 in
theorem law_12 {p : Program} {l : Launch} {e : Env} {s : State} {m : MethodId} {args : Array Value} {below : List Frame} {meth : Method} {c0 : Code} {Q : State → Prop} {D : va_G} {G : Nat → ClassId} {ad : Nat → Nat} {b L o oD : Nat} {xs : Nat → Int32} {cl cd : ClassId} (hW : qLw p l s m args meth c0 D G ad b L o oD xs) {w wF : qMem} {i : Nat} (hi : i + 3 < L) {H : Heap} {locs : List Loc} {ls : Array Slot} {cc cs : Nat} {f0 : Nat → Int64} {g0 : Nat → UInt64} (hR : qRp D G ad s w H locs) (hO : qOut o cl .long (1, .inr (.inl f0)) (qAdr ad H.size) s H) (hOD : qOut oD cd .double (1, .inr (.inr (.inr (.inl g0)))) (qAdr ad H.size) s H) (hl : lv_has ls 9 (qlvs b o oD i ad)) (hf : qs_12 w (xs (i + 1)) (xs (i + 2)) (xs (i + 3)) = some wF) (hcc : cc + 320 ≤ room_1.cells) (hcs : cs + 2000 ≤ room_1.slots) (kk : ∀ (H : Heap) (locs : List Loc) (ls : Array Slot) (f0 : Nat → Int64) (g0 : Nat → UInt64) (cc1 cs1 : Nat), cc1 ≤ cc + 320 → cs1 ≤ cs + 2000 → qRp D G ad s wF H locs → qOut o cl .long (1, .inr (.inl f0)) (qAdr ad H.size) s H → qOut oD cd .double (1, .inr (.inr (.inr (.inl g0)))) (qAdr ad H.size) s H → lv_has ls 9 (qlvs b o oD i ad) → W p l e room_1 s m args below meth c0 H locs cc1 cs1 Q (F0 m 2120 ls [])) : W p l e room_1 s m args below meth c0 H locs cc cs Q (F0 m 846 ls []) := by
  obtain ⟨hC, hst, hX, hbl, hbA, hL, ho, hoD, hne⟩ := hW
  have hx := hC.1
  have hb := hC.2.1
  have hl : lv_has ls 9 [(0, .ref b), (1, .ref (ad 228)), (2, .ref (ad 238)), (3, .ref o), (4, .ref oD), (5, .int (nI i))] := hl
  unfold qs_12 at hf
  refine lv_aload_n hx hb dL_law_846 rfl (lv_at hl 1 rfl) ?_
  refine lv_aload_n hx hb dL_law_847 rfl (lv_at hl 0 rfl) ?_
  refine lv_iload hx hb dL_law_848 (lv_at hl 5 rfl) ?_
  refine lv_iconst (v := 1) hx hb dL_law_850 (by decide) ?_
  refine lv_iadd hx hb dL_law_851 ?_
  rw [show nI i + 1 = nI (i + 1) from nI_add i 1]
  refine va_sld hx hb hX hbl hbA hR.2 (vp_in_nI (by omega) (by omega)) dL_law_852 ?_
  rw [nI_clamp (by omega)]
  refine lv_aload_n hx hb dL_law_853 rfl (lv_at hl 0 rfl) ?_
  refine lv_iload hx hb dL_law_854 (lv_at hl 5 rfl) ?_
  refine lv_iconst (v := 2) hx hb dL_law_856 (by decide) ?_
  refine lv_iadd hx hb dL_law_857 ?_
  rw [show nI i + 2 = nI (i + 2) from nI_add i 2]
  refine va_sld hx hb hX hbl hbA hR.2 (vp_in_nI (by omega) (by omega)) dL_law_858 ?_
  rw [nI_clamp (by omega)]
  refine lv_aload_n hx hb dL_law_859 rfl (lv_at hl 0 rfl) ?_
  refine lv_iload hx hb dL_law_860 (lv_at hl 5 rfl) ?_
  refine lv_iconst (v := 3) hx hb dL_law_862 (by decide) ?_
  refine lv_iadd hx hb dL_law_863 ?_
  rw [show nI i + 3 = nI (i + 3) from nI_add i 3]
  refine va_sld hx hb hX hbl hbA hR.2 (vp_in_nI (by omega) (by omega)) dL_law_864 ?_
  rw [nI_clamp (by omega)]
  refine q_bool hx hb dL_law_865 dL_law_868 dL_law_869 dL_law_872 ?_
  refine lv_aload_n hx hb dL_law_873 rfl (lv_at hl 3 rfl) ?_
  obtain ⟨k2, r1, w3, hq4, hf⟩ := qbdn_s hf
  refine q_callL (As := [.ref (ad 228), .int (xs (i + 1)), .int (xs (i + 2)), .int (if (xs (i + 3)) = 0 then 0 else 1), .ref o]) (rest := []) hC hR (mL_on (qJ hC) hst hq4) hO ho qk_775 qk_776 qk_57 qkl_777 qhd_L_on ⟨Nat.le_of_ble_eq_true rfl, Nat.le_of_ble_eq_true rfl⟩ hl.1 rfl (Nat.le_of_ble_eq_true rfl) dL_law_874 ⟨by show _ ≤ room_1.cells; omega, by show _ ≤ room_1.slots; omega⟩ (fun _ H locs hPA hz hk hO1 hR => ?_)
  have hOD := qOut_on2 hOD hne hz hk
  obtain ⟨f5, rfl, e6⟩ := hPA
  have hO := hO1
  refine lv_istore (lv' := [(6, .int k2), (0, .ref b), (1, .ref (ad 228)), (2, .ref (ad 238)), (3, .ref o), (4, .ref oD), (5, .int (nI i))]) hx hb dL_law_877 hl (by decide) rfl (fun ls hl => ?_)
  refine lv_aload_n hx hb dL_law_879 rfl (lv_at hl 3 rfl) ?_
  refine lv_aload_n hx hb dL_law_880 rfl (lv_at hl 1 rfl) ?_
  refine lv_iload hx hb dL_law_881 (lv_at hl 6 rfl) ?_
  refine lv_iconst (v := 1) hx hb dL_law_883 (by decide) ?_
  refine lv_iadd hx hb dL_law_884 ?_
  rw [show nI i + 1 = nI (i + 1) from nI_add i 1]
  refine va_sld hx hb hX hbl hbA hR.2 (vp_in_nI (by omega) (by omega)) dL_law_885 ?_
  rw [nI_clamp (by omega)]
  refine lv_aload_n hx hb dL_law_886 rfl (lv_at hl 1 rfl) ?_
  refine lv_iload hx hb dL_law_887 (lv_at hl 6 rfl) ?_
  refine lv_iconst (v := 2) hx hb dL_law_889 (by decide) ?_
  refine lv_iadd hx hb dL_law_890 ?_
  rw [show nI i + 2 = nI (i + 2) from nI_add i 2]
  refine va_sld hx hb hX hbl hbA hR.2 (vp_in_nI (by omega) (by omega)) dL_law_891 ?_
  rw [nI_clamp (by omega)]
  refine lv_aload_n hx hb dL_law_892 rfl (lv_at hl 1 rfl) ?_
  refine lv_iload hx hb dL_law_893 (lv_at hl 6 rfl) ?_
  refine lv_iconst (v := 3) hx hb dL_law_895 (by decide) ?_
  refine lv_iadd hx hb dL_law_896 ?_
  rw [show nI i + 3 = nI (i + 3) from nI_add i 3]
  refine va_sld hx hb hX hbl hbA hR.2 (vp_in_nI (by omega) (by omega)) dL_law_897 ?_
  rw [nI_clamp (by omega)]
  refine q_bool hx hb dL_law_898 dL_law_901 dL_law_902 dL_law_905 ?_
  obtain ⟨b7, w9, hq8, hf⟩ := qbd2_s hf
  refine q_ki (As := [.int (xs (i + 1)), .int (xs (i + 2)), .int (if (xs (i + 3)) = 0 then 0 else 1)]) (rest := []) hC hR (mX6_on (qJ hC) hq8) (by decide) (qsh_238 G ad _) rfl qk_1345 qk_1346 qk_1347 qk_64 qk_1348 qhd_X6_on ⟨Nat.le_of_ble_eq_true rfl, Nat.le_of_ble_eq_true rfl⟩ hl.1 rfl (Nat.le_of_ble_eq_true rfl) dL_law_906 ⟨by show _ ≤ room_1.cells; omega, by show _ ≤ room_1.slots; omega⟩ (fun H locs hz hk hR => ?_)
  have hO := qX_on qOut_k hO hz hk
  have hOD := qX_on qOut_k hOD hz hk
  refine lv_istore (lv' := [(7, .int b7), (6, .int k2), (0, .ref b), (1, .ref (ad 228)), (2, .ref (ad 238)), (3, .ref o), (4, .ref oD), (5, .int (nI i))]) hx hb dL_law_909 hl (by decide) rfl (fun ls hl => ?_)
  refine lv_aload_n hx hb dL_law_911 rfl (lv_at hl 4 rfl) ?_
  obtain ⟨b10, hq11, hf⟩ := qbd_s hf
  refine q_ki (As := []) (rest := []) hC hR (mX6_thrown (qJ hC) hq11) (by decide) (qsh_238 G ad _) rfl qk_1189 qk_1190 qk_1191 qk_64 qk_1192 qhd_X6_thrown ⟨Nat.le_of_ble_eq_true rfl, Nat.le_of_ble_eq_true rfl⟩ hl.1 rfl (Nat.le_of_ble_eq_true rfl) dL_law_912 ⟨by show _ ≤ room_1.cells; omega, by show _ ≤ room_1.slots; omega⟩ (fun H locs hz hk hR => ?_)
  have hO := qX_on qOut_k hO hz hk
  have hOD := qX_on qOut_k hOD hz hk
  refine lv_iload hx hb dL_law_915 (lv_at hl 1 rfl) ?_
  obtain ⟨g12, hf⟩ := qgd hf
  refine lv_icmp_eq (tgt := 922) hx hb dL_law_917 (by decide) (fun _ => ?_) (fun c_1 => absurd g12 c_1)
  refine lv_iload hx hb dL_law_922 (lv_at hl 1 rfl) ?_
  refine lv_if_ne (tgt := 939) hx hb dL_law_924 (by decide) (fun c13 => ?_) (fun c13 => ?_)
  · have hf := qif_f hf c13
    refine lv_goto (tgt := 2120) hx hb dL_law_939 (by decide) ?_
    have hwe := qso hf
    subst hwe
    exact kk _ _ _ _ _ _ _ (by omega) (by omega) hR hO hOD (lv_sub hl [2, 3, 4, 5, 6, 7] rfl)
  · have hf := qif_t hf c13
    obtain ⟨g14, hf⟩ := qgd hf
    have hwe := qso hf
    subst hwe
    subst g14
    refine lv_aload_n hx hb dL_law_927 rfl (lv_at hl 5 rfl) ?_
    refine lv_iconst (v := 0) hx hb dL_law_928 (by decide) ?_
    refine q_lald hC hO (e6 c13) dL_law_929 ?_
    refine lv_iload hx hb dL_law_930 (lv_at hl 0 rfl) ?_
    refine lv_i2l hx hb dL_law_932 rfl ?_
    refine W.lcmp hx hb dL_law_933 ?_
    rw [qcmp0]
    refine lv_if_eq (tgt := 939) hx hb dL_law_934 (by decide) (fun _ => ?_) (fun c_1 => absurd rfl c_1)
    refine lv_goto (tgt := 2120) hx hb dL_law_939 (by decide) ?_
    exact kk _ _ _ _ _ _ _ (by omega) (by omega) hR hO hOD (lv_sub hl [2, 3, 4, 5, 6, 7] rfl)
def qs_13 (w : qMem) (a1 a2 a3 : Int32) : Option qMem :=
  qbdn (fL_wouldMark w a1) fun (k2 : Int32) (r1 : Int32) (w3 : qMem) =>
  qbd2 (fX6_wouldMark w3 a1) fun (b7 : Int32) (w9 : qMem) =>
  qbd (fX6_thrown w9) fun (b10 : Int32) =>
  if b10 = k2 then
  if k2 = 0 then
    if r1 = b7 then
    some w9
    else none
  else
    some w9
  else none

set_option maxHeartbeats 4000000 in
set_option maxRecDepth 100000 in
theorem law_13 {p : Program} {l : Launch} {e : Env} {s : State} {m : MethodId} {args : Array Value} {below : List Frame} {meth : Method} {c0 : Code} {Q : State → Prop} {D : va_G} {G : Nat → ClassId} {ad : Nat → Nat} {b L o oD : Nat} {xs : Nat → Int32} {cl cd : ClassId} (hW : qLw p l s m args meth c0 D G ad b L o oD xs) {w wF : qMem} {i : Nat} (hi : i + 3 < L) {H : Heap} {locs : List Loc} {ls : Array Slot} {cc cs : Nat} {f0 : Nat → Int64} {g0 : Nat → UInt64} (hR : qRp D G ad s w H locs) (hO : qOut o cl .long (1, .inr (.inl f0)) (qAdr ad H.size) s H) (hOD : qOut oD cd .double (1, .inr (.inr (.inr (.inl g0)))) (qAdr ad H.size) s H) (hl : lv_has ls 9 (qlvs b o oD i ad)) (hf : qs_13 w (xs (i + 1)) (xs (i + 2)) (xs (i + 3)) = some wF) (hcc : cc + 320 ≤ room_1.cells) (hcs : cs + 2000 ≤ room_1.slots) (kk : ∀ (H : Heap) (locs : List Loc) (ls : Array Slot) (f0 : Nat → Int64) (g0 : Nat → UInt64) (cc1 cs1 : Nat), cc1 ≤ cc + 320 → cs1 ≤ cs + 2000 → qRp D G ad s wF H locs → qOut o cl .long (1, .inr (.inl f0)) (qAdr ad H.size) s H → qOut oD cd .double (1, .inr (.inr (.inr (.inl g0)))) (qAdr ad H.size) s H → lv_has ls 9 (qlvs b o oD i ad) → W p l e room_1 s m args below meth c0 H locs cc1 cs1 Q (F0 m 2120 ls [])) : W p l e room_1 s m args below meth c0 H locs cc cs Q (F0 m 942 ls []) := by
  obtain ⟨hC, hst, hX, hbl, hbA, hL, ho, hoD, hne⟩ := hW
  have hx := hC.1
  have hb := hC.2.1
  have hl : lv_has ls 9 [(0, .ref b), (1, .ref (ad 228)), (2, .ref (ad 238)), (3, .ref o), (4, .ref oD), (5, .int (nI i))] := hl
  unfold qs_13 at hf
  refine lv_aload_n hx hb dL_law_942 rfl (lv_at hl 1 rfl) ?_
  refine lv_aload_n hx hb dL_law_943 rfl (lv_at hl 0 rfl) ?_
  refine lv_iload hx hb dL_law_944 (lv_at hl 5 rfl) ?_
  refine lv_iconst (v := 1) hx hb dL_law_946 (by decide) ?_
  refine lv_iadd hx hb dL_law_947 ?_
  rw [show nI i + 1 = nI (i + 1) from nI_add i 1]
  refine va_sld hx hb hX hbl hbA hR.2 (vp_in_nI (by omega) (by omega)) dL_law_948 ?_
  rw [nI_clamp (by omega)]
  refine lv_aload_n hx hb dL_law_949 rfl (lv_at hl 3 rfl) ?_
  obtain ⟨k2, r1, w3, hq4, hf⟩ := qbdn_s hf
  refine q_callL (As := [.ref (ad 228), .int (xs (i + 1)), .ref o]) (rest := []) hC hR (mL_wouldMark (qJ hC) hst hq4) hO ho qk_783 qk_784 qk_57 qkl_785 qhd_L_wouldMark ⟨Nat.le_of_ble_eq_true rfl, Nat.le_of_ble_eq_true rfl⟩ hl.1 rfl (Nat.le_of_ble_eq_true rfl) dL_law_950 ⟨by show _ ≤ room_1.cells; omega, by show _ ≤ room_1.slots; omega⟩ (fun _ H locs hPA hz hk hO1 hR => ?_)
  have hOD := qOut_on2 hOD hne hz hk
  obtain ⟨f5, rfl, e6⟩ := hPA
  have hO := hO1
  refine lv_istore (lv' := [(6, .int k2), (0, .ref b), (1, .ref (ad 228)), (2, .ref (ad 238)), (3, .ref o), (4, .ref oD), (5, .int (nI i))]) hx hb dL_law_953 hl (by decide) rfl (fun ls hl => ?_)
  refine lv_aload_n hx hb dL_law_955 rfl (lv_at hl 3 rfl) ?_
  refine lv_aload_n hx hb dL_law_956 rfl (lv_at hl 1 rfl) ?_
  refine lv_iload hx hb dL_law_957 (lv_at hl 6 rfl) ?_
  refine lv_iconst (v := 1) hx hb dL_law_959 (by decide) ?_
  refine lv_iadd hx hb dL_law_960 ?_
  rw [show nI i + 1 = nI (i + 1) from nI_add i 1]
  refine va_sld hx hb hX hbl hbA hR.2 (vp_in_nI (by omega) (by omega)) dL_law_961 ?_
  rw [nI_clamp (by omega)]
  obtain ⟨b7, w9, hq8, hf⟩ := qbd2_s hf
  refine q_ki (As := [.int (xs (i + 1))]) (rest := []) hC hR (mX6_wouldMark (qJ hC) hq8) (by decide) (qsh_238 G ad _) rfl qk_1349 qk_1350 qk_1351 qk_64 qk_1352 qhd_X6_wouldMark ⟨Nat.le_of_ble_eq_true rfl, Nat.le_of_ble_eq_true rfl⟩ hl.1 rfl (Nat.le_of_ble_eq_true rfl) dL_law_962 ⟨by show _ ≤ room_1.cells; omega, by show _ ≤ room_1.slots; omega⟩ (fun H locs hz hk hR => ?_)
  have hO := qX_on qOut_k hO hz hk
  have hOD := qX_on qOut_k hOD hz hk
  refine lv_istore (lv' := [(7, .int b7), (6, .int k2), (0, .ref b), (1, .ref (ad 228)), (2, .ref (ad 238)), (3, .ref o), (4, .ref oD), (5, .int (nI i))]) hx hb dL_law_965 hl (by decide) rfl (fun ls hl => ?_)
  refine lv_aload_n hx hb dL_law_967 rfl (lv_at hl 4 rfl) ?_
  obtain ⟨b10, hq11, hf⟩ := qbd_s hf
  refine q_ki (As := []) (rest := []) hC hR (mX6_thrown (qJ hC) hq11) (by decide) (qsh_238 G ad _) rfl qk_1189 qk_1190 qk_1191 qk_64 qk_1192 qhd_X6_thrown ⟨Nat.le_of_ble_eq_true rfl, Nat.le_of_ble_eq_true rfl⟩ hl.1 rfl (Nat.le_of_ble_eq_true rfl) dL_law_968 ⟨by show _ ≤ room_1.cells; omega, by show _ ≤ room_1.slots; omega⟩ (fun H locs hz hk hR => ?_)
  have hO := qX_on qOut_k hO hz hk
  have hOD := qX_on qOut_k hOD hz hk
  refine lv_iload hx hb dL_law_971 (lv_at hl 1 rfl) ?_
  obtain ⟨g12, hf⟩ := qgd hf
  refine lv_icmp_eq (tgt := 978) hx hb dL_law_973 (by decide) (fun _ => ?_) (fun c_1 => absurd g12 c_1)
  refine lv_iload hx hb dL_law_978 (lv_at hl 1 rfl) ?_
  refine lv_if_ne (tgt := 995) hx hb dL_law_980 (by decide) (fun c13 => ?_) (fun c13 => ?_)
  · have hf := qif_f hf c13
    refine lv_goto (tgt := 2120) hx hb dL_law_995 (by decide) ?_
    have hwe := qso hf
    subst hwe
    exact kk _ _ _ _ _ _ _ (by omega) (by omega) hR hO hOD (lv_sub hl [2, 3, 4, 5, 6, 7] rfl)
  · have hf := qif_t hf c13
    obtain ⟨g14, hf⟩ := qgd hf
    have hwe := qso hf
    subst hwe
    subst g14
    refine lv_aload_n hx hb dL_law_983 rfl (lv_at hl 5 rfl) ?_
    refine lv_iconst (v := 0) hx hb dL_law_984 (by decide) ?_
    refine q_lald hC hO (e6 c13) dL_law_985 ?_
    refine lv_iload hx hb dL_law_986 (lv_at hl 0 rfl) ?_
    refine lv_i2l hx hb dL_law_988 rfl ?_
    refine W.lcmp hx hb dL_law_989 ?_
    rw [qcmp0]
    refine lv_if_eq (tgt := 995) hx hb dL_law_990 (by decide) (fun _ => ?_) (fun c_1 => absurd rfl c_1)
    refine lv_goto (tgt := 2120) hx hb dL_law_995 (by decide) ?_
    exact kk _ _ _ _ _ _ _ (by omega) (by omega) hR hO hOD (lv_sub hl [2, 3, 4, 5, 6, 7] rfl)
def qs_14 (w : qMem) (a1 a2 a3 : Int32) : Option qMem :=
  qbdn (fL_wouldBreak w a1 (if a2 = 0 then 0 else 1)) fun (k2 : Int32) (r1 : Int32) (w3 : qMem) =>
  qbd2 (fX6_wouldBreak w3 a1 (if a2 = 0 then 0 else 1)) fun (b7 : Int32) (w9 : qMem) =>
  qbd (fX6_thrown w9) fun (b10 : Int32) =>
  if b10 = k2 then
  if k2 = 0 then
    if r1 = b7 then
    some w9
    else none
  else
    some w9
  else none

set_option maxHeartbeats 4000000 in
set_option maxRecDepth 100000 in
theorem law_14 {p : Program} {l : Launch} {e : Env} {s : State} {m : MethodId} {args : Array Value} {below : List Frame} {meth : Method} {c0 : Code} {Q : State → Prop} {D : va_G} {G : Nat → ClassId} {ad : Nat → Nat} {b L o oD : Nat} {xs : Nat → Int32} {cl cd : ClassId} (hW : qLw p l s m args meth c0 D G ad b L o oD xs) {w wF : qMem} {i : Nat} (hi : i + 3 < L) {H : Heap} {locs : List Loc} {ls : Array Slot} {cc cs : Nat} {f0 : Nat → Int64} {g0 : Nat → UInt64} (hR : qRp D G ad s w H locs) (hO : qOut o cl .long (1, .inr (.inl f0)) (qAdr ad H.size) s H) (hOD : qOut oD cd .double (1, .inr (.inr (.inr (.inl g0)))) (qAdr ad H.size) s H) (hl : lv_has ls 9 (qlvs b o oD i ad)) (hf : qs_14 w (xs (i + 1)) (xs (i + 2)) (xs (i + 3)) = some wF) (hcc : cc + 320 ≤ room_1.cells) (hcs : cs + 2000 ≤ room_1.slots) (kk : ∀ (H : Heap) (locs : List Loc) (ls : Array Slot) (f0 : Nat → Int64) (g0 : Nat → UInt64) (cc1 cs1 : Nat), cc1 ≤ cc + 320 → cs1 ≤ cs + 2000 → qRp D G ad s wF H locs → qOut o cl .long (1, .inr (.inl f0)) (qAdr ad H.size) s H → qOut oD cd .double (1, .inr (.inr (.inr (.inl g0)))) (qAdr ad H.size) s H → lv_has ls 9 (qlvs b o oD i ad) → W p l e room_1 s m args below meth c0 H locs cc1 cs1 Q (F0 m 2120 ls [])) : W p l e room_1 s m args below meth c0 H locs cc cs Q (F0 m 998 ls []) := by
  obtain ⟨hC, hst, hX, hbl, hbA, hL, ho, hoD, hne⟩ := hW
  have hx := hC.1
  have hb := hC.2.1
  have hl : lv_has ls 9 [(0, .ref b), (1, .ref (ad 228)), (2, .ref (ad 238)), (3, .ref o), (4, .ref oD), (5, .int (nI i))] := hl
  unfold qs_14 at hf
  refine lv_aload_n hx hb dL_law_998 rfl (lv_at hl 1 rfl) ?_
  refine lv_aload_n hx hb dL_law_999 rfl (lv_at hl 0 rfl) ?_
  refine lv_iload hx hb dL_law_1000 (lv_at hl 5 rfl) ?_
  refine lv_iconst (v := 1) hx hb dL_law_1002 (by decide) ?_
  refine lv_iadd hx hb dL_law_1003 ?_
  rw [show nI i + 1 = nI (i + 1) from nI_add i 1]
  refine va_sld hx hb hX hbl hbA hR.2 (vp_in_nI (by omega) (by omega)) dL_law_1004 ?_
  rw [nI_clamp (by omega)]
  refine lv_aload_n hx hb dL_law_1005 rfl (lv_at hl 0 rfl) ?_
  refine lv_iload hx hb dL_law_1006 (lv_at hl 5 rfl) ?_
  refine lv_iconst (v := 2) hx hb dL_law_1008 (by decide) ?_
  refine lv_iadd hx hb dL_law_1009 ?_
  rw [show nI i + 2 = nI (i + 2) from nI_add i 2]
  refine va_sld hx hb hX hbl hbA hR.2 (vp_in_nI (by omega) (by omega)) dL_law_1010 ?_
  rw [nI_clamp (by omega)]
  refine q_bool hx hb dL_law_1011 dL_law_1014 dL_law_1015 dL_law_1018 ?_
  refine lv_aload_n hx hb dL_law_1019 rfl (lv_at hl 3 rfl) ?_
  obtain ⟨k2, r1, w3, hq4, hf⟩ := qbdn_s hf
  refine q_callL (As := [.ref (ad 228), .int (xs (i + 1)), .int (if (xs (i + 2)) = 0 then 0 else 1), .ref o]) (rest := []) hC hR (mL_wouldBreak (qJ hC) hst hq4) hO ho qk_793 qk_794 qk_57 qkl_795 qhd_L_wouldBreak ⟨Nat.le_of_ble_eq_true rfl, Nat.le_of_ble_eq_true rfl⟩ hl.1 rfl (Nat.le_of_ble_eq_true rfl) dL_law_1020 ⟨by show _ ≤ room_1.cells; omega, by show _ ≤ room_1.slots; omega⟩ (fun _ H locs hPA hz hk hO1 hR => ?_)
  have hOD := qOut_on2 hOD hne hz hk
  obtain ⟨f5, rfl, e6⟩ := hPA
  have hO := hO1
  refine lv_istore (lv' := [(6, .int k2), (0, .ref b), (1, .ref (ad 228)), (2, .ref (ad 238)), (3, .ref o), (4, .ref oD), (5, .int (nI i))]) hx hb dL_law_1023 hl (by decide) rfl (fun ls hl => ?_)
  refine lv_aload_n hx hb dL_law_1025 rfl (lv_at hl 3 rfl) ?_
  refine lv_aload_n hx hb dL_law_1026 rfl (lv_at hl 1 rfl) ?_
  refine lv_iload hx hb dL_law_1027 (lv_at hl 6 rfl) ?_
  refine lv_iconst (v := 1) hx hb dL_law_1029 (by decide) ?_
  refine lv_iadd hx hb dL_law_1030 ?_
  rw [show nI i + 1 = nI (i + 1) from nI_add i 1]
  refine va_sld hx hb hX hbl hbA hR.2 (vp_in_nI (by omega) (by omega)) dL_law_1031 ?_
  rw [nI_clamp (by omega)]
  refine lv_aload_n hx hb dL_law_1032 rfl (lv_at hl 1 rfl) ?_
  refine lv_iload hx hb dL_law_1033 (lv_at hl 6 rfl) ?_
  refine lv_iconst (v := 2) hx hb dL_law_1035 (by decide) ?_
  refine lv_iadd hx hb dL_law_1036 ?_
  rw [show nI i + 2 = nI (i + 2) from nI_add i 2]
  refine va_sld hx hb hX hbl hbA hR.2 (vp_in_nI (by omega) (by omega)) dL_law_1037 ?_
  rw [nI_clamp (by omega)]
  refine q_bool hx hb dL_law_1038 dL_law_1041 dL_law_1042 dL_law_1045 ?_
  obtain ⟨b7, w9, hq8, hf⟩ := qbd2_s hf
  refine q_ki (As := [.int (xs (i + 1)), .int (if (xs (i + 2)) = 0 then 0 else 1)]) (rest := []) hC hR (mX6_wouldBreak (qJ hC) hq8) (by decide) (qsh_238 G ad _) rfl qk_1365 qk_1366 qk_1367 qk_64 qk_1368 qhd_X6_wouldBreak ⟨Nat.le_of_ble_eq_true rfl, Nat.le_of_ble_eq_true rfl⟩ hl.1 rfl (Nat.le_of_ble_eq_true rfl) dL_law_1046 ⟨by show _ ≤ room_1.cells; omega, by show _ ≤ room_1.slots; omega⟩ (fun H locs hz hk hR => ?_)
  have hO := qX_on qOut_k hO hz hk
  have hOD := qX_on qOut_k hOD hz hk
  refine lv_istore (lv' := [(7, .int b7), (6, .int k2), (0, .ref b), (1, .ref (ad 228)), (2, .ref (ad 238)), (3, .ref o), (4, .ref oD), (5, .int (nI i))]) hx hb dL_law_1049 hl (by decide) rfl (fun ls hl => ?_)
  refine lv_aload_n hx hb dL_law_1051 rfl (lv_at hl 4 rfl) ?_
  obtain ⟨b10, hq11, hf⟩ := qbd_s hf
  refine q_ki (As := []) (rest := []) hC hR (mX6_thrown (qJ hC) hq11) (by decide) (qsh_238 G ad _) rfl qk_1189 qk_1190 qk_1191 qk_64 qk_1192 qhd_X6_thrown ⟨Nat.le_of_ble_eq_true rfl, Nat.le_of_ble_eq_true rfl⟩ hl.1 rfl (Nat.le_of_ble_eq_true rfl) dL_law_1052 ⟨by show _ ≤ room_1.cells; omega, by show _ ≤ room_1.slots; omega⟩ (fun H locs hz hk hR => ?_)
  have hO := qX_on qOut_k hO hz hk
  have hOD := qX_on qOut_k hOD hz hk
  refine lv_iload hx hb dL_law_1055 (lv_at hl 1 rfl) ?_
  obtain ⟨g12, hf⟩ := qgd hf
  refine lv_icmp_eq (tgt := 1062) hx hb dL_law_1057 (by decide) (fun _ => ?_) (fun c_1 => absurd g12 c_1)
  refine lv_iload hx hb dL_law_1062 (lv_at hl 1 rfl) ?_
  refine lv_if_ne (tgt := 1079) hx hb dL_law_1064 (by decide) (fun c13 => ?_) (fun c13 => ?_)
  · have hf := qif_f hf c13
    refine lv_goto (tgt := 2120) hx hb dL_law_1079 (by decide) ?_
    have hwe := qso hf
    subst hwe
    exact kk _ _ _ _ _ _ _ (by omega) (by omega) hR hO hOD (lv_sub hl [2, 3, 4, 5, 6, 7] rfl)
  · have hf := qif_t hf c13
    obtain ⟨g14, hf⟩ := qgd hf
    have hwe := qso hf
    subst hwe
    subst g14
    refine lv_aload_n hx hb dL_law_1067 rfl (lv_at hl 5 rfl) ?_
    refine lv_iconst (v := 0) hx hb dL_law_1068 (by decide) ?_
    refine q_lald hC hO (e6 c13) dL_law_1069 ?_
    refine lv_iload hx hb dL_law_1070 (lv_at hl 0 rfl) ?_
    refine lv_i2l hx hb dL_law_1072 rfl ?_
    refine W.lcmp hx hb dL_law_1073 ?_
    rw [qcmp0]
    refine lv_if_eq (tgt := 1079) hx hb dL_law_1074 (by decide) (fun _ => ?_) (fun c_1 => absurd rfl c_1)
    refine lv_goto (tgt := 2120) hx hb dL_law_1079 (by decide) ?_
    exact kk _ _ _ _ _ _ _ (by omega) (by omega) hR hO hOD (lv_sub hl [2, 3, 4, 5, 6, 7] rfl)
def qs_15 (w : qMem) (a1 a2 a3 : Int32) : Option qMem :=
  qbd2 (fX5_programmeBreaks w) fun (b1 : Int32) (w3 : qMem) =>
  qbd2 (fX6_programmeBreaks w3) fun (b4 : Int32) (w6 : qMem) =>
  if b1 = b4 then
  some w6
  else none

set_option maxHeartbeats 4000000 in
set_option maxRecDepth 100000 in
theorem law_15 {p : Program} {l : Launch} {e : Env} {s : State} {m : MethodId} {args : Array Value} {below : List Frame} {meth : Method} {c0 : Code} {Q : State → Prop} {D : va_G} {G : Nat → ClassId} {ad : Nat → Nat} {b L o oD : Nat} {xs : Nat → Int32} {cl cd : ClassId} (hW : qLw p l s m args meth c0 D G ad b L o oD xs) {w wF : qMem} {i : Nat} (hi : i + 3 < L) {H : Heap} {locs : List Loc} {ls : Array Slot} {cc cs : Nat} {f0 : Nat → Int64} {g0 : Nat → UInt64} (hR : qRp D G ad s w H locs) (hO : qOut o cl .long (1, .inr (.inl f0)) (qAdr ad H.size) s H) (hOD : qOut oD cd .double (1, .inr (.inr (.inr (.inl g0)))) (qAdr ad H.size) s H) (hl : lv_has ls 9 (qlvs b o oD i ad)) (hf : qs_15 w (xs (i + 1)) (xs (i + 2)) (xs (i + 3)) = some wF) (hcc : cc + 320 ≤ room_1.cells) (hcs : cs + 2000 ≤ room_1.slots) (kk : ∀ (H : Heap) (locs : List Loc) (ls : Array Slot) (f0 : Nat → Int64) (g0 : Nat → UInt64) (cc1 cs1 : Nat), cc1 ≤ cc + 320 → cs1 ≤ cs + 2000 → qRp D G ad s wF H locs → qOut o cl .long (1, .inr (.inl f0)) (qAdr ad H.size) s H → qOut oD cd .double (1, .inr (.inr (.inr (.inl g0)))) (qAdr ad H.size) s H → lv_has ls 9 (qlvs b o oD i ad) → W p l e room_1 s m args below meth c0 H locs cc1 cs1 Q (F0 m 2120 ls [])) : W p l e room_1 s m args below meth c0 H locs cc cs Q (F0 m 1082 ls []) := by
  obtain ⟨hC, hst, hX, hbl, hbA, hL, ho, hoD, hne⟩ := hW
  have hx := hC.1
  have hb := hC.2.1
  have hl : lv_has ls 9 [(0, .ref b), (1, .ref (ad 228)), (2, .ref (ad 238)), (3, .ref o), (4, .ref oD), (5, .int (nI i))] := hl
  unfold qs_15 at hf
  refine lv_aload_n hx hb dL_law_1082 rfl (lv_at hl 1 rfl) ?_
  obtain ⟨b1, w3, hq2, hf⟩ := qbd2_s hf
  refine q_ki (As := []) (rest := []) hC hR (mX5_programmeBreaks (qJ hC) hq2) (by decide) (qsh_228 G ad _) rfl qk_462 qk_463 qk_464 qk_58 qk_465 qhd_X5_programmeBreaks ⟨Nat.le_of_ble_eq_true rfl, Nat.le_of_ble_eq_true rfl⟩ hl.1 rfl (Nat.le_of_ble_eq_true rfl) dL_law_1083 ⟨by show _ ≤ room_1.cells; omega, by show _ ≤ room_1.slots; omega⟩ (fun H locs hz hk hR => ?_)
  have hO := qX_on qOut_k hO hz hk
  have hOD := qX_on qOut_k hOD hz hk
  refine lv_aload_n hx hb dL_law_1086 rfl (lv_at hl 2 rfl) ?_
  obtain ⟨b4, w6, hq5, hf⟩ := qbd2_s hf
  refine q_ki (As := []) (rest := [.int b1]) hC hR (mX6_programmeBreaks (qJ hC) hq5) (by decide) (qsh_238 G ad _) rfl qk_1369 qk_1370 qk_1371 qk_64 qk_1372 qhd_X6_programmeBreaks ⟨Nat.le_of_ble_eq_true rfl, Nat.le_of_ble_eq_true rfl⟩ hl.1 rfl (Nat.le_of_ble_eq_true rfl) dL_law_1087 ⟨by show _ ≤ room_1.cells; omega, by show _ ≤ room_1.slots; omega⟩ (fun H locs hz hk hR => ?_)
  have hO := qX_on qOut_k hO hz hk
  have hOD := qX_on qOut_k hOD hz hk
  obtain ⟨g7, hf⟩ := qgd hf
  refine lv_icmp_eq (tgt := 2120) hx hb dL_law_1090 (by decide) (fun _ => ?_) (fun c_1 => absurd g7 c_1)
  have hwe := qso hf
  subst hwe
  exact kk _ _ _ _ _ _ _ (by omega) (by omega) hR hO hOD (lv_sub hl [0, 1, 2, 3, 4, 5] rfl)
def qs_16 (w : qMem) (a1 a2 a3 : Int32) : Option qMem :=
  qbd2 (fX5_best w) fun (b1 : Int32) (w3 : qMem) =>
  qbd2 (fX6_best w3) fun (b4 : Int32) (w6 : qMem) =>
  if b1 = b4 then
  some w6
  else none

set_option maxHeartbeats 4000000 in
set_option maxRecDepth 100000 in
theorem law_16 {p : Program} {l : Launch} {e : Env} {s : State} {m : MethodId} {args : Array Value} {below : List Frame} {meth : Method} {c0 : Code} {Q : State → Prop} {D : va_G} {G : Nat → ClassId} {ad : Nat → Nat} {b L o oD : Nat} {xs : Nat → Int32} {cl cd : ClassId} (hW : qLw p l s m args meth c0 D G ad b L o oD xs) {w wF : qMem} {i : Nat} (hi : i + 3 < L) {H : Heap} {locs : List Loc} {ls : Array Slot} {cc cs : Nat} {f0 : Nat → Int64} {g0 : Nat → UInt64} (hR : qRp D G ad s w H locs) (hO : qOut o cl .long (1, .inr (.inl f0)) (qAdr ad H.size) s H) (hOD : qOut oD cd .double (1, .inr (.inr (.inr (.inl g0)))) (qAdr ad H.size) s H) (hl : lv_has ls 9 (qlvs b o oD i ad)) (hf : qs_16 w (xs (i + 1)) (xs (i + 2)) (xs (i + 3)) = some wF) (hcc : cc + 320 ≤ room_1.cells) (hcs : cs + 2000 ≤ room_1.slots) (kk : ∀ (H : Heap) (locs : List Loc) (ls : Array Slot) (f0 : Nat → Int64) (g0 : Nat → UInt64) (cc1 cs1 : Nat), cc1 ≤ cc + 320 → cs1 ≤ cs + 2000 → qRp D G ad s wF H locs → qOut o cl .long (1, .inr (.inl f0)) (qAdr ad H.size) s H → qOut oD cd .double (1, .inr (.inr (.inr (.inl g0)))) (qAdr ad H.size) s H → lv_has ls 9 (qlvs b o oD i ad) → W p l e room_1 s m args below meth c0 H locs cc1 cs1 Q (F0 m 2120 ls [])) : W p l e room_1 s m args below meth c0 H locs cc cs Q (F0 m 1095 ls []) := by
  obtain ⟨hC, hst, hX, hbl, hbA, hL, ho, hoD, hne⟩ := hW
  have hx := hC.1
  have hb := hC.2.1
  have hl : lv_has ls 9 [(0, .ref b), (1, .ref (ad 228)), (2, .ref (ad 238)), (3, .ref o), (4, .ref oD), (5, .int (nI i))] := hl
  unfold qs_16 at hf
  refine lv_aload_n hx hb dL_law_1095 rfl (lv_at hl 1 rfl) ?_
  obtain ⟨b1, w3, hq2, hf⟩ := qbd2_s hf
  refine q_ki (As := []) (rest := []) hC hR (mX5_best (qJ hC) hq2) (by decide) (qsh_228 G ad _) rfl qk_467 qk_468 qk_469 qk_58 qk_470 qhd_X5_best ⟨Nat.le_of_ble_eq_true rfl, Nat.le_of_ble_eq_true rfl⟩ hl.1 rfl (Nat.le_of_ble_eq_true rfl) dL_law_1096 ⟨by show _ ≤ room_1.cells; omega, by show _ ≤ room_1.slots; omega⟩ (fun H locs hz hk hR => ?_)
  have hO := qX_on qOut_k hO hz hk
  have hOD := qX_on qOut_k hOD hz hk
  refine lv_aload_n hx hb dL_law_1099 rfl (lv_at hl 2 rfl) ?_
  obtain ⟨b4, w6, hq5, hf⟩ := qbd2_s hf
  refine q_ki (As := []) (rest := [.int b1]) hC hR (mX6_best (qJ hC) hq5) (by decide) (qsh_238 G ad _) rfl qk_1373 qk_1374 qk_1375 qk_64 qk_1376 qhd_X6_best ⟨Nat.le_of_ble_eq_true rfl, Nat.le_of_ble_eq_true rfl⟩ hl.1 rfl (Nat.le_of_ble_eq_true rfl) dL_law_1100 ⟨by show _ ≤ room_1.cells; omega, by show _ ≤ room_1.slots; omega⟩ (fun H locs hz hk hR => ?_)
  have hO := qX_on qOut_k hO hz hk
  have hOD := qX_on qOut_k hOD hz hk
  obtain ⟨g7, hf⟩ := qgd hf
  refine lv_icmp_eq (tgt := 2120) hx hb dL_law_1103 (by decide) (fun _ => ?_) (fun c_1 => absurd g7 c_1)
  have hwe := qso hf
  subst hwe
  exact kk _ _ _ _ _ _ _ (by omega) (by omega) hR hO hOD (lv_sub hl [0, 1, 2, 3, 4, 5] rfl)
def qs_17 (w : qMem) (a1 a2 a3 : Int32) : Option qMem :=
  qbdn (fL_leastBreaking w) fun (k2 : Int32) (r1 : Int32) (w3 : qMem) =>
  qbd2 (fX6_leastBreaking w3) fun (b7 : Int32) (w9 : qMem) =>
  qbd (fX6_thrown w9) fun (b10 : Int32) =>
  if b10 = k2 then
  if k2 = 0 then
    if r1 = b7 then
    some w9
    else none
  else
    some w9
  else none

set_option maxHeartbeats 4000000 in
set_option maxRecDepth 100000 in
theorem law_17 {p : Program} {l : Launch} {e : Env} {s : State} {m : MethodId} {args : Array Value} {below : List Frame} {meth : Method} {c0 : Code} {Q : State → Prop} {D : va_G} {G : Nat → ClassId} {ad : Nat → Nat} {b L o oD : Nat} {xs : Nat → Int32} {cl cd : ClassId} (hW : qLw p l s m args meth c0 D G ad b L o oD xs) {w wF : qMem} {i : Nat} (hi : i + 3 < L) {H : Heap} {locs : List Loc} {ls : Array Slot} {cc cs : Nat} {f0 : Nat → Int64} {g0 : Nat → UInt64} (hR : qRp D G ad s w H locs) (hO : qOut o cl .long (1, .inr (.inl f0)) (qAdr ad H.size) s H) (hOD : qOut oD cd .double (1, .inr (.inr (.inr (.inl g0)))) (qAdr ad H.size) s H) (hl : lv_has ls 9 (qlvs b o oD i ad)) (hf : qs_17 w (xs (i + 1)) (xs (i + 2)) (xs (i + 3)) = some wF) (hcc : cc + 320 ≤ room_1.cells) (hcs : cs + 2000 ≤ room_1.slots) (kk : ∀ (H : Heap) (locs : List Loc) (ls : Array Slot) (f0 : Nat → Int64) (g0 : Nat → UInt64) (cc1 cs1 : Nat), cc1 ≤ cc + 320 → cs1 ≤ cs + 2000 → qRp D G ad s wF H locs → qOut o cl .long (1, .inr (.inl f0)) (qAdr ad H.size) s H → qOut oD cd .double (1, .inr (.inr (.inr (.inl g0)))) (qAdr ad H.size) s H → lv_has ls 9 (qlvs b o oD i ad) → W p l e room_1 s m args below meth c0 H locs cc1 cs1 Q (F0 m 2120 ls [])) : W p l e room_1 s m args below meth c0 H locs cc cs Q (F0 m 1108 ls []) := by
  obtain ⟨hC, hst, hX, hbl, hbA, hL, ho, hoD, hne⟩ := hW
  have hx := hC.1
  have hb := hC.2.1
  have hl : lv_has ls 9 [(0, .ref b), (1, .ref (ad 228)), (2, .ref (ad 238)), (3, .ref o), (4, .ref oD), (5, .int (nI i))] := hl
  unfold qs_17 at hf
  refine lv_aload_n hx hb dL_law_1108 rfl (lv_at hl 1 rfl) ?_
  refine lv_aload_n hx hb dL_law_1109 rfl (lv_at hl 3 rfl) ?_
  obtain ⟨k2, r1, w3, hq4, hf⟩ := qbdn_s hf
  refine q_callL (As := [.ref (ad 228), .ref o]) (rest := []) hC hR (mL_leastBreaking (qJ hC) hst hq4) hO ho qk_800 qk_801 qk_57 qkl_802 qhd_L_leastBreaking ⟨Nat.le_of_ble_eq_true rfl, Nat.le_of_ble_eq_true rfl⟩ hl.1 rfl (Nat.le_of_ble_eq_true rfl) dL_law_1110 ⟨by show _ ≤ room_1.cells; omega, by show _ ≤ room_1.slots; omega⟩ (fun _ H locs hPA hz hk hO1 hR => ?_)
  have hOD := qOut_on2 hOD hne hz hk
  obtain ⟨f5, rfl, e6⟩ := hPA
  have hO := hO1
  refine lv_istore (lv' := [(6, .int k2), (0, .ref b), (1, .ref (ad 228)), (2, .ref (ad 238)), (3, .ref o), (4, .ref oD), (5, .int (nI i))]) hx hb dL_law_1113 hl (by decide) rfl (fun ls hl => ?_)
  refine lv_aload_n hx hb dL_law_1115 rfl (lv_at hl 3 rfl) ?_
  obtain ⟨b7, w9, hq8, hf⟩ := qbd2_s hf
  refine q_ki (As := []) (rest := []) hC hR (mX6_leastBreaking (qJ hC) hq8) (by decide) (qsh_238 G ad _) rfl qk_1377 qk_1378 qk_1379 qk_64 qk_1380 qhd_X6_leastBreaking ⟨Nat.le_of_ble_eq_true rfl, Nat.le_of_ble_eq_true rfl⟩ hl.1 rfl (Nat.le_of_ble_eq_true rfl) dL_law_1116 ⟨by show _ ≤ room_1.cells; omega, by show _ ≤ room_1.slots; omega⟩ (fun H locs hz hk hR => ?_)
  have hO := qX_on qOut_k hO hz hk
  have hOD := qX_on qOut_k hOD hz hk
  refine lv_istore (lv' := [(7, .int b7), (6, .int k2), (0, .ref b), (1, .ref (ad 228)), (2, .ref (ad 238)), (3, .ref o), (4, .ref oD), (5, .int (nI i))]) hx hb dL_law_1119 hl (by decide) rfl (fun ls hl => ?_)
  refine lv_aload_n hx hb dL_law_1121 rfl (lv_at hl 4 rfl) ?_
  obtain ⟨b10, hq11, hf⟩ := qbd_s hf
  refine q_ki (As := []) (rest := []) hC hR (mX6_thrown (qJ hC) hq11) (by decide) (qsh_238 G ad _) rfl qk_1189 qk_1190 qk_1191 qk_64 qk_1192 qhd_X6_thrown ⟨Nat.le_of_ble_eq_true rfl, Nat.le_of_ble_eq_true rfl⟩ hl.1 rfl (Nat.le_of_ble_eq_true rfl) dL_law_1122 ⟨by show _ ≤ room_1.cells; omega, by show _ ≤ room_1.slots; omega⟩ (fun H locs hz hk hR => ?_)
  have hO := qX_on qOut_k hO hz hk
  have hOD := qX_on qOut_k hOD hz hk
  refine lv_iload hx hb dL_law_1125 (lv_at hl 1 rfl) ?_
  obtain ⟨g12, hf⟩ := qgd hf
  refine lv_icmp_eq (tgt := 1132) hx hb dL_law_1127 (by decide) (fun _ => ?_) (fun c_1 => absurd g12 c_1)
  refine lv_iload hx hb dL_law_1132 (lv_at hl 1 rfl) ?_
  refine lv_if_ne (tgt := 1149) hx hb dL_law_1134 (by decide) (fun c13 => ?_) (fun c13 => ?_)
  · have hf := qif_f hf c13
    refine lv_goto (tgt := 2120) hx hb dL_law_1149 (by decide) ?_
    have hwe := qso hf
    subst hwe
    exact kk _ _ _ _ _ _ _ (by omega) (by omega) hR hO hOD (lv_sub hl [2, 3, 4, 5, 6, 7] rfl)
  · have hf := qif_t hf c13
    obtain ⟨g14, hf⟩ := qgd hf
    have hwe := qso hf
    subst hwe
    subst g14
    refine lv_aload_n hx hb dL_law_1137 rfl (lv_at hl 5 rfl) ?_
    refine lv_iconst (v := 0) hx hb dL_law_1138 (by decide) ?_
    refine q_lald hC hO (e6 c13) dL_law_1139 ?_
    refine lv_iload hx hb dL_law_1140 (lv_at hl 0 rfl) ?_
    refine lv_i2l hx hb dL_law_1142 rfl ?_
    refine W.lcmp hx hb dL_law_1143 ?_
    rw [qcmp0]
    refine lv_if_eq (tgt := 1149) hx hb dL_law_1144 (by decide) (fun _ => ?_) (fun c_1 => absurd rfl c_1)
    refine lv_goto (tgt := 2120) hx hb dL_law_1149 (by decide) ?_
    exact kk _ _ _ _ _ _ _ (by omega) (by omega) hR hO hOD (lv_sub hl [2, 3, 4, 5, 6, 7] rfl)
def qs_18 (w : qMem) (a1 a2 a3 : Int32) : Option qMem :=
  qbdn (fL_shocksFor w a1) fun (k2 : Int32) (r1 : Int32) (w3 : qMem) =>
  qbd2 (fX6_shocksFor w3 a1) fun (b7 : Int32) (w9 : qMem) =>
  qbd (fX6_thrown w9) fun (b10 : Int32) =>
  if b10 = k2 then
  if k2 = 0 then
    if r1 = b7 then
    some w9
    else none
  else
    some w9
  else none

set_option maxHeartbeats 4000000 in
set_option maxRecDepth 100000 in
theorem law_18 {p : Program} {l : Launch} {e : Env} {s : State} {m : MethodId} {args : Array Value} {below : List Frame} {meth : Method} {c0 : Code} {Q : State → Prop} {D : va_G} {G : Nat → ClassId} {ad : Nat → Nat} {b L o oD : Nat} {xs : Nat → Int32} {cl cd : ClassId} (hW : qLw p l s m args meth c0 D G ad b L o oD xs) {w wF : qMem} {i : Nat} (hi : i + 3 < L) {H : Heap} {locs : List Loc} {ls : Array Slot} {cc cs : Nat} {f0 : Nat → Int64} {g0 : Nat → UInt64} (hR : qRp D G ad s w H locs) (hO : qOut o cl .long (1, .inr (.inl f0)) (qAdr ad H.size) s H) (hOD : qOut oD cd .double (1, .inr (.inr (.inr (.inl g0)))) (qAdr ad H.size) s H) (hl : lv_has ls 9 (qlvs b o oD i ad)) (hf : qs_18 w (xs (i + 1)) (xs (i + 2)) (xs (i + 3)) = some wF) (hcc : cc + 320 ≤ room_1.cells) (hcs : cs + 2000 ≤ room_1.slots) (kk : ∀ (H : Heap) (locs : List Loc) (ls : Array Slot) (f0 : Nat → Int64) (g0 : Nat → UInt64) (cc1 cs1 : Nat), cc1 ≤ cc + 320 → cs1 ≤ cs + 2000 → qRp D G ad s wF H locs → qOut o cl .long (1, .inr (.inl f0)) (qAdr ad H.size) s H → qOut oD cd .double (1, .inr (.inr (.inr (.inl g0)))) (qAdr ad H.size) s H → lv_has ls 9 (qlvs b o oD i ad) → W p l e room_1 s m args below meth c0 H locs cc1 cs1 Q (F0 m 2120 ls [])) : W p l e room_1 s m args below meth c0 H locs cc cs Q (F0 m 1152 ls []) := by
  obtain ⟨hC, hst, hX, hbl, hbA, hL, ho, hoD, hne⟩ := hW
  have hx := hC.1
  have hb := hC.2.1
  have hl : lv_has ls 9 [(0, .ref b), (1, .ref (ad 228)), (2, .ref (ad 238)), (3, .ref o), (4, .ref oD), (5, .int (nI i))] := hl
  unfold qs_18 at hf
  refine lv_aload_n hx hb dL_law_1152 rfl (lv_at hl 1 rfl) ?_
  refine lv_aload_n hx hb dL_law_1153 rfl (lv_at hl 0 rfl) ?_
  refine lv_iload hx hb dL_law_1154 (lv_at hl 5 rfl) ?_
  refine lv_iconst (v := 1) hx hb dL_law_1156 (by decide) ?_
  refine lv_iadd hx hb dL_law_1157 ?_
  rw [show nI i + 1 = nI (i + 1) from nI_add i 1]
  refine va_sld hx hb hX hbl hbA hR.2 (vp_in_nI (by omega) (by omega)) dL_law_1158 ?_
  rw [nI_clamp (by omega)]
  refine lv_aload_n hx hb dL_law_1159 rfl (lv_at hl 3 rfl) ?_
  obtain ⟨k2, r1, w3, hq4, hf⟩ := qbdn_s hf
  refine q_callL (As := [.ref (ad 228), .int (xs (i + 1)), .ref o]) (rest := []) hC hR (mL_shocksFor (qJ hC) hst hq4) hO ho qk_808 qk_809 qk_57 qkl_810 qhd_L_shocksFor ⟨Nat.le_of_ble_eq_true rfl, Nat.le_of_ble_eq_true rfl⟩ hl.1 rfl (Nat.le_of_ble_eq_true rfl) dL_law_1160 ⟨by show _ ≤ room_1.cells; omega, by show _ ≤ room_1.slots; omega⟩ (fun _ H locs hPA hz hk hO1 hR => ?_)
  have hOD := qOut_on2 hOD hne hz hk
  obtain ⟨f5, rfl, e6⟩ := hPA
  have hO := hO1
  refine lv_istore (lv' := [(6, .int k2), (0, .ref b), (1, .ref (ad 228)), (2, .ref (ad 238)), (3, .ref o), (4, .ref oD), (5, .int (nI i))]) hx hb dL_law_1163 hl (by decide) rfl (fun ls hl => ?_)
  refine lv_aload_n hx hb dL_law_1165 rfl (lv_at hl 3 rfl) ?_
  refine lv_aload_n hx hb dL_law_1166 rfl (lv_at hl 1 rfl) ?_
  refine lv_iload hx hb dL_law_1167 (lv_at hl 6 rfl) ?_
  refine lv_iconst (v := 1) hx hb dL_law_1169 (by decide) ?_
  refine lv_iadd hx hb dL_law_1170 ?_
  rw [show nI i + 1 = nI (i + 1) from nI_add i 1]
  refine va_sld hx hb hX hbl hbA hR.2 (vp_in_nI (by omega) (by omega)) dL_law_1171 ?_
  rw [nI_clamp (by omega)]
  obtain ⟨b7, w9, hq8, hf⟩ := qbd2_s hf
  refine q_ki (As := [.int (xs (i + 1))]) (rest := []) hC hR (mX6_shocksFor (qJ hC) hq8) (by decide) (qsh_238 G ad _) rfl qk_1381 qk_1382 qk_1383 qk_64 qk_1384 qhd_X6_shocksFor ⟨Nat.le_of_ble_eq_true rfl, Nat.le_of_ble_eq_true rfl⟩ hl.1 rfl (Nat.le_of_ble_eq_true rfl) dL_law_1172 ⟨by show _ ≤ room_1.cells; omega, by show _ ≤ room_1.slots; omega⟩ (fun H locs hz hk hR => ?_)
  have hO := qX_on qOut_k hO hz hk
  have hOD := qX_on qOut_k hOD hz hk
  refine lv_istore (lv' := [(7, .int b7), (6, .int k2), (0, .ref b), (1, .ref (ad 228)), (2, .ref (ad 238)), (3, .ref o), (4, .ref oD), (5, .int (nI i))]) hx hb dL_law_1175 hl (by decide) rfl (fun ls hl => ?_)
  refine lv_aload_n hx hb dL_law_1177 rfl (lv_at hl 4 rfl) ?_
  obtain ⟨b10, hq11, hf⟩ := qbd_s hf
  refine q_ki (As := []) (rest := []) hC hR (mX6_thrown (qJ hC) hq11) (by decide) (qsh_238 G ad _) rfl qk_1189 qk_1190 qk_1191 qk_64 qk_1192 qhd_X6_thrown ⟨Nat.le_of_ble_eq_true rfl, Nat.le_of_ble_eq_true rfl⟩ hl.1 rfl (Nat.le_of_ble_eq_true rfl) dL_law_1178 ⟨by show _ ≤ room_1.cells; omega, by show _ ≤ room_1.slots; omega⟩ (fun H locs hz hk hR => ?_)
  have hO := qX_on qOut_k hO hz hk
  have hOD := qX_on qOut_k hOD hz hk
  refine lv_iload hx hb dL_law_1181 (lv_at hl 1 rfl) ?_
  obtain ⟨g12, hf⟩ := qgd hf
  refine lv_icmp_eq (tgt := 1188) hx hb dL_law_1183 (by decide) (fun _ => ?_) (fun c_1 => absurd g12 c_1)
  refine lv_iload hx hb dL_law_1188 (lv_at hl 1 rfl) ?_
  refine lv_if_ne (tgt := 1205) hx hb dL_law_1190 (by decide) (fun c13 => ?_) (fun c13 => ?_)
  · have hf := qif_f hf c13
    refine lv_goto (tgt := 2120) hx hb dL_law_1205 (by decide) ?_
    have hwe := qso hf
    subst hwe
    exact kk _ _ _ _ _ _ _ (by omega) (by omega) hR hO hOD (lv_sub hl [2, 3, 4, 5, 6, 7] rfl)
  · have hf := qif_t hf c13
    obtain ⟨g14, hf⟩ := qgd hf
    have hwe := qso hf
    subst hwe
    subst g14
    refine lv_aload_n hx hb dL_law_1193 rfl (lv_at hl 5 rfl) ?_
    refine lv_iconst (v := 0) hx hb dL_law_1194 (by decide) ?_
    refine q_lald hC hO (e6 c13) dL_law_1195 ?_
    refine lv_iload hx hb dL_law_1196 (lv_at hl 0 rfl) ?_
    refine lv_i2l hx hb dL_law_1198 rfl ?_
    refine W.lcmp hx hb dL_law_1199 ?_
    rw [qcmp0]
    refine lv_if_eq (tgt := 1205) hx hb dL_law_1200 (by decide) (fun _ => ?_) (fun c_1 => absurd rfl c_1)
    refine lv_goto (tgt := 2120) hx hb dL_law_1205 (by decide) ?_
    exact kk _ _ _ _ _ _ _ (by omega) (by omega) hR hO hOD (lv_sub hl [2, 3, 4, 5, 6, 7] rfl)
