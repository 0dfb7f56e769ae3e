def qs_19 (w : qMem) (a1 a2 a3 : Int32) : Option qMem :=
  qbdn (fL_isBroken w a1) fun (k2 : Int32) (r1 : Int32) (w3 : qMem) =>
  qbd2 (fX6_isBroken w3 a1) fun (b7 : Int32) (w9 : qMem) =>
  qbd (fX6_thrown w9) fun (b10 : Int32) =>
  if b10 = k2 then
  if k2 = 0 then
    if r1 = b7 then
    some w9
    else none
  else
    some w9
  else none

set_option maxHeartbeats 4000000 in
set_option maxRecDepth 100000 in
theorem law_19 {p : Program} {l : Launch} {e : Env} {s : State} {m : MethodId} {args : Array Value} {below : List Frame} {meth : Method} {c0 : Code} {Q : State → Prop} {D : va_G} {G : Nat → ClassId} {ad : Nat → Nat} {b L o oD : Nat} {xs : Nat → Int32} {cl cd : ClassId} (hW : qLw p l s m args meth c0 D G ad b L o oD xs) {w wF : qMem} {i : Nat} (hi : i + 3 < L) {H : Heap} {locs : List Loc} {ls : Array Slot} {cc cs : Nat} {f0 : Nat → Int64} {g0 : Nat → UInt64} (hR : qRp D G ad s w H locs) (hO : qOut o cl .long (1, .inr (.inl f0)) (qAdr ad H.size) s H) (hOD : qOut oD cd .double (1, .inr (.inr (.inr (.inl g0)))) (qAdr ad H.size) s H) (hl : lv_has ls 9 (qlvs b o oD i ad)) (hf : qs_19 w (xs (i + 1)) (xs (i + 2)) (xs (i + 3)) = some wF) (hcc : cc + 320 ≤ room_1.cells) (hcs : cs + 2000 ≤ room_1.slots) (kk : ∀ (H : Heap) (locs : List Loc) (ls : Array Slot) (f0 : Nat → Int64) (g0 : Nat → UInt64) (cc1 cs1 : Nat), cc1 ≤ cc + 320 → cs1 ≤ cs + 2000 → qRp D G ad s wF H locs → qOut o cl .long (1, .inr (.inl f0)) (qAdr ad H.size) s H → qOut oD cd .double (1, .inr (.inr (.inr (.inl g0)))) (qAdr ad H.size) s H → lv_has ls 9 (qlvs b o oD i ad) → W p l e room_1 s m args below meth c0 H locs cc1 cs1 Q (F0 m 2120 ls [])) : W p l e room_1 s m args below meth c0 H locs cc cs Q (F0 m 1208 ls []) := by
  obtain ⟨hC, hst, hX, hbl, hbA, hL, ho, hoD, hne⟩ := hW
  have hx := hC.1
  have hb := hC.2.1
  have hl : lv_has ls 9 [(0, .ref b), (1, .ref (ad 228)), (2, .ref (ad 238)), (3, .ref o), (4, .ref oD), (5, .int (nI i))] := hl
  unfold qs_19 at hf
  refine lv_aload_n hx hb dL_law_1208 rfl (lv_at hl 1 rfl) ?_
  refine lv_aload_n hx hb dL_law_1209 rfl (lv_at hl 0 rfl) ?_
  refine lv_iload hx hb dL_law_1210 (lv_at hl 5 rfl) ?_
  refine lv_iconst (v := 1) hx hb dL_law_1212 (by decide) ?_
  refine lv_iadd hx hb dL_law_1213 ?_
  rw [show nI i + 1 = nI (i + 1) from nI_add i 1]
  refine va_sld hx hb hX hbl hbA hR.2 (vp_in_nI (by omega) (by omega)) dL_law_1214 ?_
  rw [nI_clamp (by omega)]
  refine lv_aload_n hx hb dL_law_1215 rfl (lv_at hl 3 rfl) ?_
  obtain ⟨k2, r1, w3, hq4, hf⟩ := qbdn_s hf
  refine q_callL (As := [.ref (ad 228), .int (xs (i + 1)), .ref o]) (rest := []) hC hR (mL_isBroken (qJ hC) hst hq4) hO ho qk_815 qk_816 qk_57 qkl_817 qhd_L_isBroken ⟨Nat.le_of_ble_eq_true rfl, Nat.le_of_ble_eq_true rfl⟩ hl.1 rfl (Nat.le_of_ble_eq_true rfl) dL_law_1216 ⟨by show _ ≤ room_1.cells; omega, by show _ ≤ room_1.slots; omega⟩ (fun _ H locs hPA hz hk hO1 hR => ?_)
  have hOD := qOut_on2 hOD hne hz hk
  obtain ⟨f5, rfl, e6⟩ := hPA
  have hO := hO1
  refine lv_istore (lv' := [(6, .int k2), (0, .ref b), (1, .ref (ad 228)), (2, .ref (ad 238)), (3, .ref o), (4, .ref oD), (5, .int (nI i))]) hx hb dL_law_1219 hl (by decide) rfl (fun ls hl => ?_)
  refine lv_aload_n hx hb dL_law_1221 rfl (lv_at hl 3 rfl) ?_
  refine lv_aload_n hx hb dL_law_1222 rfl (lv_at hl 1 rfl) ?_
  refine lv_iload hx hb dL_law_1223 (lv_at hl 6 rfl) ?_
  refine lv_iconst (v := 1) hx hb dL_law_1225 (by decide) ?_
  refine lv_iadd hx hb dL_law_1226 ?_
  rw [show nI i + 1 = nI (i + 1) from nI_add i 1]
  refine va_sld hx hb hX hbl hbA hR.2 (vp_in_nI (by omega) (by omega)) dL_law_1227 ?_
  rw [nI_clamp (by omega)]
  obtain ⟨b7, w9, hq8, hf⟩ := qbd2_s hf
  refine q_ki (As := [.int (xs (i + 1))]) (rest := []) hC hR (mX6_isBroken (qJ hC) hq8) (by decide) (qsh_238 G ad _) rfl qk_1385 qk_1386 qk_1387 qk_64 qk_1388 qhd_X6_isBroken ⟨Nat.le_of_ble_eq_true rfl, Nat.le_of_ble_eq_true rfl⟩ hl.1 rfl (Nat.le_of_ble_eq_true rfl) dL_law_1228 ⟨by show _ ≤ room_1.cells; omega, by show _ ≤ room_1.slots; omega⟩ (fun H locs hz hk hR => ?_)
  have hO := qX_on qOut_k hO hz hk
  have hOD := qX_on qOut_k hOD hz hk
  refine lv_istore (lv' := [(7, .int b7), (6, .int k2), (0, .ref b), (1, .ref (ad 228)), (2, .ref (ad 238)), (3, .ref o), (4, .ref oD), (5, .int (nI i))]) hx hb dL_law_1231 hl (by decide) rfl (fun ls hl => ?_)
  refine lv_aload_n hx hb dL_law_1233 rfl (lv_at hl 4 rfl) ?_
  obtain ⟨b10, hq11, hf⟩ := qbd_s hf
  refine q_ki (As := []) (rest := []) hC hR (mX6_thrown (qJ hC) hq11) (by decide) (qsh_238 G ad _) rfl qk_1189 qk_1190 qk_1191 qk_64 qk_1192 qhd_X6_thrown ⟨Nat.le_of_ble_eq_true rfl, Nat.le_of_ble_eq_true rfl⟩ hl.1 rfl (Nat.le_of_ble_eq_true rfl) dL_law_1234 ⟨by show _ ≤ room_1.cells; omega, by show _ ≤ room_1.slots; omega⟩ (fun H locs hz hk hR => ?_)
  have hO := qX_on qOut_k hO hz hk
  have hOD := qX_on qOut_k hOD hz hk
  refine lv_iload hx hb dL_law_1237 (lv_at hl 1 rfl) ?_
  obtain ⟨g12, hf⟩ := qgd hf
  refine lv_icmp_eq (tgt := 1244) hx hb dL_law_1239 (by decide) (fun _ => ?_) (fun c_1 => absurd g12 c_1)
  refine lv_iload hx hb dL_law_1244 (lv_at hl 1 rfl) ?_
  refine lv_if_ne (tgt := 1268) hx hb dL_law_1246 (by decide) (fun c13 => ?_) (fun c13 => ?_)
  · have hf := qif_f hf c13
    refine lv_goto (tgt := 2120) hx hb dL_law_1268 (by decide) ?_
    have hwe := qso hf
    subst hwe
    exact kk _ _ _ _ _ _ _ (by omega) (by omega) hR hO hOD (lv_sub hl [2, 3, 4, 5, 6, 7] rfl)
  · have hf := qif_t hf c13
    obtain ⟨g14, hf⟩ := qgd hf
    have hwe := qso hf
    subst hwe
    subst g14
    refine lv_aload_n hx hb dL_law_1249 rfl (lv_at hl 5 rfl) ?_
    refine lv_iconst (v := 0) hx hb dL_law_1250 (by decide) ?_
    refine q_lald hC hO (e6 c13) dL_law_1251 ?_
    refine lv_iload hx hb dL_law_1252 (lv_at hl 0 rfl) ?_
    refine q_boolL hx hb dL_law_1254 dL_law_1257 dL_law_1258 dL_law_1261 ?_
    refine W.lcmp hx hb dL_law_1262 ?_
    rw [qcmp0]
    refine lv_if_eq (tgt := 1268) hx hb dL_law_1263 (by decide) (fun _ => ?_) (fun c_1 => absurd rfl c_1)
    refine lv_goto (tgt := 2120) hx hb dL_law_1268 (by decide) ?_
    exact kk _ _ _ _ _ _ _ (by omega) (by omega) hR hO hOD (lv_sub hl [2, 3, 4, 5, 6, 7] rfl)
def qs_20 (w : qMem) (a1 a2 a3 : Int32) : Option qMem :=
  qbdn (fL_cupAt w a1) fun (k2 : Int32) (r1 : Int32) (w3 : qMem) =>
  qbd2 (fX6_cupAt w3 a1) fun (b7 : Int32) (w9 : qMem) =>
  qbd (fX6_thrown w9) fun (b10 : Int32) =>
  if b10 = k2 then
  if k2 = 0 then
    if r1 = b7 then
    some w9
    else none
  else
    some w9
  else none

set_option maxHeartbeats 4000000 in
set_option maxRecDepth 100000 in
theorem law_20 {p : Program} {l : Launch} {e : Env} {s : State} {m : MethodId} {args : Array Value} {below : List Frame} {meth : Method} {c0 : Code} {Q : State → Prop} {D : va_G} {G : Nat → ClassId} {ad : Nat → Nat} {b L o oD : Nat} {xs : Nat → Int32} {cl cd : ClassId} (hW : qLw p l s m args meth c0 D G ad b L o oD xs) {w wF : qMem} {i : Nat} (hi : i + 3 < L) {H : Heap} {locs : List Loc} {ls : Array Slot} {cc cs : Nat} {f0 : Nat → Int64} {g0 : Nat → UInt64} (hR : qRp D G ad s w H locs) (hO : qOut o cl .long (1, .inr (.inl f0)) (qAdr ad H.size) s H) (hOD : qOut oD cd .double (1, .inr (.inr (.inr (.inl g0)))) (qAdr ad H.size) s H) (hl : lv_has ls 9 (qlvs b o oD i ad)) (hf : qs_20 w (xs (i + 1)) (xs (i + 2)) (xs (i + 3)) = some wF) (hcc : cc + 320 ≤ room_1.cells) (hcs : cs + 2000 ≤ room_1.slots) (kk : ∀ (H : Heap) (locs : List Loc) (ls : Array Slot) (f0 : Nat → Int64) (g0 : Nat → UInt64) (cc1 cs1 : Nat), cc1 ≤ cc + 320 → cs1 ≤ cs + 2000 → qRp D G ad s wF H locs → qOut o cl .long (1, .inr (.inl f0)) (qAdr ad H.size) s H → qOut oD cd .double (1, .inr (.inr (.inr (.inl g0)))) (qAdr ad H.size) s H → lv_has ls 9 (qlvs b o oD i ad) → W p l e room_1 s m args below meth c0 H locs cc1 cs1 Q (F0 m 2120 ls [])) : W p l e room_1 s m args below meth c0 H locs cc cs Q (F0 m 1271 ls []) := by
  obtain ⟨hC, hst, hX, hbl, hbA, hL, ho, hoD, hne⟩ := hW
  have hx := hC.1
  have hb := hC.2.1
  have hl : lv_has ls 9 [(0, .ref b), (1, .ref (ad 228)), (2, .ref (ad 238)), (3, .ref o), (4, .ref oD), (5, .int (nI i))] := hl
  unfold qs_20 at hf
  refine lv_aload_n hx hb dL_law_1271 rfl (lv_at hl 1 rfl) ?_
  refine lv_aload_n hx hb dL_law_1272 rfl (lv_at hl 0 rfl) ?_
  refine lv_iload hx hb dL_law_1273 (lv_at hl 5 rfl) ?_
  refine lv_iconst (v := 1) hx hb dL_law_1275 (by decide) ?_
  refine lv_iadd hx hb dL_law_1276 ?_
  rw [show nI i + 1 = nI (i + 1) from nI_add i 1]
  refine va_sld hx hb hX hbl hbA hR.2 (vp_in_nI (by omega) (by omega)) dL_law_1277 ?_
  rw [nI_clamp (by omega)]
  refine lv_aload_n hx hb dL_law_1278 rfl (lv_at hl 3 rfl) ?_
  obtain ⟨k2, r1, w3, hq4, hf⟩ := qbdn_s hf
  refine q_callL (As := [.ref (ad 228), .int (xs (i + 1)), .ref o]) (rest := []) hC hR (mL_cupAt (qJ hC) hst hq4) hO ho qk_822 qk_823 qk_57 qkl_824 qhd_L_cupAt ⟨Nat.le_of_ble_eq_true rfl, Nat.le_of_ble_eq_true rfl⟩ hl.1 rfl (Nat.le_of_ble_eq_true rfl) dL_law_1279 ⟨by show _ ≤ room_1.cells; omega, by show _ ≤ room_1.slots; omega⟩ (fun _ H locs hPA hz hk hO1 hR => ?_)
  have hOD := qOut_on2 hOD hne hz hk
  obtain ⟨f5, rfl, e6⟩ := hPA
  have hO := hO1
  refine lv_istore (lv' := [(6, .int k2), (0, .ref b), (1, .ref (ad 228)), (2, .ref (ad 238)), (3, .ref o), (4, .ref oD), (5, .int (nI i))]) hx hb dL_law_1282 hl (by decide) rfl (fun ls hl => ?_)
  refine lv_aload_n hx hb dL_law_1284 rfl (lv_at hl 3 rfl) ?_
  refine lv_aload_n hx hb dL_law_1285 rfl (lv_at hl 1 rfl) ?_
  refine lv_iload hx hb dL_law_1286 (lv_at hl 6 rfl) ?_
  refine lv_iconst (v := 1) hx hb dL_law_1288 (by decide) ?_
  refine lv_iadd hx hb dL_law_1289 ?_
  rw [show nI i + 1 = nI (i + 1) from nI_add i 1]
  refine va_sld hx hb hX hbl hbA hR.2 (vp_in_nI (by omega) (by omega)) dL_law_1290 ?_
  rw [nI_clamp (by omega)]
  obtain ⟨b7, w9, hq8, hf⟩ := qbd2_s hf
  refine q_ki (As := [.int (xs (i + 1))]) (rest := []) hC hR (mX6_cupAt (qJ hC) hq8) (by decide) (qsh_238 G ad _) rfl qk_1389 qk_1390 qk_1391 qk_64 qk_1392 qhd_X6_cupAt ⟨Nat.le_of_ble_eq_true rfl, Nat.le_of_ble_eq_true rfl⟩ hl.1 rfl (Nat.le_of_ble_eq_true rfl) dL_law_1291 ⟨by show _ ≤ room_1.cells; omega, by show _ ≤ room_1.slots; omega⟩ (fun H locs hz hk hR => ?_)
  have hO := qX_on qOut_k hO hz hk
  have hOD := qX_on qOut_k hOD hz hk
  refine lv_istore (lv' := [(7, .int b7), (6, .int k2), (0, .ref b), (1, .ref (ad 228)), (2, .ref (ad 238)), (3, .ref o), (4, .ref oD), (5, .int (nI i))]) hx hb dL_law_1294 hl (by decide) rfl (fun ls hl => ?_)
  refine lv_aload_n hx hb dL_law_1296 rfl (lv_at hl 4 rfl) ?_
  obtain ⟨b10, hq11, hf⟩ := qbd_s hf
  refine q_ki (As := []) (rest := []) hC hR (mX6_thrown (qJ hC) hq11) (by decide) (qsh_238 G ad _) rfl qk_1189 qk_1190 qk_1191 qk_64 qk_1192 qhd_X6_thrown ⟨Nat.le_of_ble_eq_true rfl, Nat.le_of_ble_eq_true rfl⟩ hl.1 rfl (Nat.le_of_ble_eq_true rfl) dL_law_1297 ⟨by show _ ≤ room_1.cells; omega, by show _ ≤ room_1.slots; omega⟩ (fun H locs hz hk hR => ?_)
  have hO := qX_on qOut_k hO hz hk
  have hOD := qX_on qOut_k hOD hz hk
  refine lv_iload hx hb dL_law_1300 (lv_at hl 1 rfl) ?_
  obtain ⟨g12, hf⟩ := qgd hf
  refine lv_icmp_eq (tgt := 1307) hx hb dL_law_1302 (by decide) (fun _ => ?_) (fun c_1 => absurd g12 c_1)
  refine lv_iload hx hb dL_law_1307 (lv_at hl 1 rfl) ?_
  refine lv_if_ne (tgt := 1324) hx hb dL_law_1309 (by decide) (fun c13 => ?_) (fun c13 => ?_)
  · have hf := qif_f hf c13
    refine lv_goto (tgt := 2120) hx hb dL_law_1324 (by decide) ?_
    have hwe := qso hf
    subst hwe
    exact kk _ _ _ _ _ _ _ (by omega) (by omega) hR hO hOD (lv_sub hl [2, 3, 4, 5, 6, 7] rfl)
  · have hf := qif_t hf c13
    obtain ⟨g14, hf⟩ := qgd hf
    have hwe := qso hf
    subst hwe
    subst g14
    refine lv_aload_n hx hb dL_law_1312 rfl (lv_at hl 5 rfl) ?_
    refine lv_iconst (v := 0) hx hb dL_law_1313 (by decide) ?_
    refine q_lald hC hO (e6 c13) dL_law_1314 ?_
    refine lv_iload hx hb dL_law_1315 (lv_at hl 0 rfl) ?_
    refine lv_i2l hx hb dL_law_1317 rfl ?_
    refine W.lcmp hx hb dL_law_1318 ?_
    rw [qcmp0]
    refine lv_if_eq (tgt := 1324) hx hb dL_law_1319 (by decide) (fun _ => ?_) (fun c_1 => absurd rfl c_1)
    refine lv_goto (tgt := 2120) hx hb dL_law_1324 (by decide) ?_
    exact kk _ _ _ _ _ _ _ (by omega) (by omega) hR hO hOD (lv_sub hl [2, 3, 4, 5, 6, 7] rfl)
def qs_21 (w : qMem) (a1 a2 a3 : Int32) : Option qMem :=
  qbdn (fL_lampAt w a1) fun (k2 : Int32) (r1 : Int32) (w3 : qMem) =>
  qbd2 (fX6_lampAt w3 a1) fun (b7 : Int32) (w9 : qMem) =>
  qbd (fX6_thrown w9) fun (b10 : Int32) =>
  if b10 = k2 then
  if k2 = 0 then
    if r1 = b7 then
    some w9
    else none
  else
    some w9
  else none

set_option maxHeartbeats 4000000 in
set_option maxRecDepth 100000 in
theorem law_21 {p : Program} {l : Launch} {e : Env} {s : State} {m : MethodId} {args : Array Value} {below : List Frame} {meth : Method} {c0 : Code} {Q : State → Prop} {D : va_G} {G : Nat → ClassId} {ad : Nat → Nat} {b L o oD : Nat} {xs : Nat → Int32} {cl cd : ClassId} (hW : qLw p l s m args meth c0 D G ad b L o oD xs) {w wF : qMem} {i : Nat} (hi : i + 3 < L) {H : Heap} {locs : List Loc} {ls : Array Slot} {cc cs : Nat} {f0 : Nat → Int64} {g0 : Nat → UInt64} (hR : qRp D G ad s w H locs) (hO : qOut o cl .long (1, .inr (.inl f0)) (qAdr ad H.size) s H) (hOD : qOut oD cd .double (1, .inr (.inr (.inr (.inl g0)))) (qAdr ad H.size) s H) (hl : lv_has ls 9 (qlvs b o oD i ad)) (hf : qs_21 w (xs (i + 1)) (xs (i + 2)) (xs (i + 3)) = some wF) (hcc : cc + 320 ≤ room_1.cells) (hcs : cs + 2000 ≤ room_1.slots) (kk : ∀ (H : Heap) (locs : List Loc) (ls : Array Slot) (f0 : Nat → Int64) (g0 : Nat → UInt64) (cc1 cs1 : Nat), cc1 ≤ cc + 320 → cs1 ≤ cs + 2000 → qRp D G ad s wF H locs → qOut o cl .long (1, .inr (.inl f0)) (qAdr ad H.size) s H → qOut oD cd .double (1, .inr (.inr (.inr (.inl g0)))) (qAdr ad H.size) s H → lv_has ls 9 (qlvs b o oD i ad) → W p l e room_1 s m args below meth c0 H locs cc1 cs1 Q (F0 m 2120 ls [])) : W p l e room_1 s m args below meth c0 H locs cc cs Q (F0 m 1327 ls []) := by
  obtain ⟨hC, hst, hX, hbl, hbA, hL, ho, hoD, hne⟩ := hW
  have hx := hC.1
  have hb := hC.2.1
  have hl : lv_has ls 9 [(0, .ref b), (1, .ref (ad 228)), (2, .ref (ad 238)), (3, .ref o), (4, .ref oD), (5, .int (nI i))] := hl
  unfold qs_21 at hf
  refine lv_aload_n hx hb dL_law_1327 rfl (lv_at hl 1 rfl) ?_
  refine lv_aload_n hx hb dL_law_1328 rfl (lv_at hl 0 rfl) ?_
  refine lv_iload hx hb dL_law_1329 (lv_at hl 5 rfl) ?_
  refine lv_iconst (v := 1) hx hb dL_law_1331 (by decide) ?_
  refine lv_iadd hx hb dL_law_1332 ?_
  rw [show nI i + 1 = nI (i + 1) from nI_add i 1]
  refine va_sld hx hb hX hbl hbA hR.2 (vp_in_nI (by omega) (by omega)) dL_law_1333 ?_
  rw [nI_clamp (by omega)]
  refine lv_aload_n hx hb dL_law_1334 rfl (lv_at hl 3 rfl) ?_
  obtain ⟨k2, r1, w3, hq4, hf⟩ := qbdn_s hf
  refine q_callL (As := [.ref (ad 228), .int (xs (i + 1)), .ref o]) (rest := []) hC hR (mL_lampAt (qJ hC) hst hq4) hO ho qk_849 qk_850 qk_57 qkl_851 qhd_L_lampAt ⟨Nat.le_of_ble_eq_true rfl, Nat.le_of_ble_eq_true rfl⟩ hl.1 rfl (Nat.le_of_ble_eq_true rfl) dL_law_1335 ⟨by show _ ≤ room_1.cells; omega, by show _ ≤ room_1.slots; omega⟩ (fun _ H locs hPA hz hk hO1 hR => ?_)
  have hOD := qOut_on2 hOD hne hz hk
  obtain ⟨f5, rfl, e6⟩ := hPA
  have hO := hO1
  refine lv_istore (lv' := [(6, .int k2), (0, .ref b), (1, .ref (ad 228)), (2, .ref (ad 238)), (3, .ref o), (4, .ref oD), (5, .int (nI i))]) hx hb dL_law_1338 hl (by decide) rfl (fun ls hl => ?_)
  refine lv_aload_n hx hb dL_law_1340 rfl (lv_at hl 3 rfl) ?_
  refine lv_aload_n hx hb dL_law_1341 rfl (lv_at hl 1 rfl) ?_
  refine lv_iload hx hb dL_law_1342 (lv_at hl 6 rfl) ?_
  refine lv_iconst (v := 1) hx hb dL_law_1344 (by decide) ?_
  refine lv_iadd hx hb dL_law_1345 ?_
  rw [show nI i + 1 = nI (i + 1) from nI_add i 1]
  refine va_sld hx hb hX hbl hbA hR.2 (vp_in_nI (by omega) (by omega)) dL_law_1346 ?_
  rw [nI_clamp (by omega)]
  obtain ⟨b7, w9, hq8, hf⟩ := qbd2_s hf
  refine q_ki (As := [.int (xs (i + 1))]) (rest := []) hC hR (mX6_lampAt (qJ hC) hq8) (by decide) (qsh_238 G ad _) rfl qk_1401 qk_1402 qk_1403 qk_64 qk_1404 qhd_X6_lampAt ⟨Nat.le_of_ble_eq_true rfl, Nat.le_of_ble_eq_true rfl⟩ hl.1 rfl (Nat.le_of_ble_eq_true rfl) dL_law_1347 ⟨by show _ ≤ room_1.cells; omega, by show _ ≤ room_1.slots; omega⟩ (fun H locs hz hk hR => ?_)
  have hO := qX_on qOut_k hO hz hk
  have hOD := qX_on qOut_k hOD hz hk
  refine lv_istore (lv' := [(7, .int b7), (6, .int k2), (0, .ref b), (1, .ref (ad 228)), (2, .ref (ad 238)), (3, .ref o), (4, .ref oD), (5, .int (nI i))]) hx hb dL_law_1350 hl (by decide) rfl (fun ls hl => ?_)
  refine lv_aload_n hx hb dL_law_1352 rfl (lv_at hl 4 rfl) ?_
  obtain ⟨b10, hq11, hf⟩ := qbd_s hf
  refine q_ki (As := []) (rest := []) hC hR (mX6_thrown (qJ hC) hq11) (by decide) (qsh_238 G ad _) rfl qk_1189 qk_1190 qk_1191 qk_64 qk_1192 qhd_X6_thrown ⟨Nat.le_of_ble_eq_true rfl, Nat.le_of_ble_eq_true rfl⟩ hl.1 rfl (Nat.le_of_ble_eq_true rfl) dL_law_1353 ⟨by show _ ≤ room_1.cells; omega, by show _ ≤ room_1.slots; omega⟩ (fun H locs hz hk hR => ?_)
  have hO := qX_on qOut_k hO hz hk
  have hOD := qX_on qOut_k hOD hz hk
  refine lv_iload hx hb dL_law_1356 (lv_at hl 1 rfl) ?_
  obtain ⟨g12, hf⟩ := qgd hf
  refine lv_icmp_eq (tgt := 1363) hx hb dL_law_1358 (by decide) (fun _ => ?_) (fun c_1 => absurd g12 c_1)
  refine lv_iload hx hb dL_law_1363 (lv_at hl 1 rfl) ?_
  refine lv_if_ne (tgt := 1380) hx hb dL_law_1365 (by decide) (fun c13 => ?_) (fun c13 => ?_)
  · have hf := qif_f hf c13
    refine lv_goto (tgt := 2120) hx hb dL_law_1380 (by decide) ?_
    have hwe := qso hf
    subst hwe
    exact kk _ _ _ _ _ _ _ (by omega) (by omega) hR hO hOD (lv_sub hl [2, 3, 4, 5, 6, 7] rfl)
  · have hf := qif_t hf c13
    obtain ⟨g14, hf⟩ := qgd hf
    have hwe := qso hf
    subst hwe
    subst g14
    refine lv_aload_n hx hb dL_law_1368 rfl (lv_at hl 5 rfl) ?_
    refine lv_iconst (v := 0) hx hb dL_law_1369 (by decide) ?_
    refine q_lald hC hO (e6 c13) dL_law_1370 ?_
    refine lv_iload hx hb dL_law_1371 (lv_at hl 0 rfl) ?_
    refine lv_i2l hx hb dL_law_1373 rfl ?_
    refine W.lcmp hx hb dL_law_1374 ?_
    rw [qcmp0]
    refine lv_if_eq (tgt := 1380) hx hb dL_law_1375 (by decide) (fun _ => ?_) (fun c_1 => absurd rfl c_1)
    refine lv_goto (tgt := 2120) hx hb dL_law_1380 (by decide) ?_
    exact kk _ _ _ _ _ _ _ (by omega) (by omega) hR hO hOD (lv_sub hl [2, 3, 4, 5, 6, 7] rfl)
def qs_22 (w : qMem) (a1 a2 a3 : Int32) : Option qMem :=
  qbdn (fL_catAt w a1) fun (k2 : Int32) (r1 : Int32) (w3 : qMem) =>
  qbd2 (fX6_catAt w3 a1) fun (b7 : Int32) (w9 : qMem) =>
  qbd (fX6_thrown w9) fun (b10 : Int32) =>
  if b10 = k2 then
  if k2 = 0 then
    if r1 = b7 then
    some w9
    else none
  else
    some w9
  else none

set_option maxHeartbeats 4000000 in
set_option maxRecDepth 100000 in
theorem law_22 {p : Program} {l : Launch} {e : Env} {s : State} {m : MethodId} {args : Array Value} {below : List Frame} {meth : Method} {c0 : Code} {Q : State → Prop} {D : va_G} {G : Nat → ClassId} {ad : Nat → Nat} {b L o oD : Nat} {xs : Nat → Int32} {cl cd : ClassId} (hW : qLw p l s m args meth c0 D G ad b L o oD xs) {w wF : qMem} {i : Nat} (hi : i + 3 < L) {H : Heap} {locs : List Loc} {ls : Array Slot} {cc cs : Nat} {f0 : Nat → Int64} {g0 : Nat → UInt64} (hR : qRp D G ad s w H locs) (hO : qOut o cl .long (1, .inr (.inl f0)) (qAdr ad H.size) s H) (hOD : qOut oD cd .double (1, .inr (.inr (.inr (.inl g0)))) (qAdr ad H.size) s H) (hl : lv_has ls 9 (qlvs b o oD i ad)) (hf : qs_22 w (xs (i + 1)) (xs (i + 2)) (xs (i + 3)) = some wF) (hcc : cc + 320 ≤ room_1.cells) (hcs : cs + 2000 ≤ room_1.slots) (kk : ∀ (H : Heap) (locs : List Loc) (ls : Array Slot) (f0 : Nat → Int64) (g0 : Nat → UInt64) (cc1 cs1 : Nat), cc1 ≤ cc + 320 → cs1 ≤ cs + 2000 → qRp D G ad s wF H locs → qOut o cl .long (1, .inr (.inl f0)) (qAdr ad H.size) s H → qOut oD cd .double (1, .inr (.inr (.inr (.inl g0)))) (qAdr ad H.size) s H → lv_has ls 9 (qlvs b o oD i ad) → W p l e room_1 s m args below meth c0 H locs cc1 cs1 Q (F0 m 2120 ls [])) : W p l e room_1 s m args below meth c0 H locs cc cs Q (F0 m 1383 ls []) := by
  obtain ⟨hC, hst, hX, hbl, hbA, hL, ho, hoD, hne⟩ := hW
  have hx := hC.1
  have hb := hC.2.1
  have hl : lv_has ls 9 [(0, .ref b), (1, .ref (ad 228)), (2, .ref (ad 238)), (3, .ref o), (4, .ref oD), (5, .int (nI i))] := hl
  unfold qs_22 at hf
  refine lv_aload_n hx hb dL_law_1383 rfl (lv_at hl 1 rfl) ?_
  refine lv_aload_n hx hb dL_law_1384 rfl (lv_at hl 0 rfl) ?_
  refine lv_iload hx hb dL_law_1385 (lv_at hl 5 rfl) ?_
  refine lv_iconst (v := 1) hx hb dL_law_1387 (by decide) ?_
  refine lv_iadd hx hb dL_law_1388 ?_
  rw [show nI i + 1 = nI (i + 1) from nI_add i 1]
  refine va_sld hx hb hX hbl hbA hR.2 (vp_in_nI (by omega) (by omega)) dL_law_1389 ?_
  rw [nI_clamp (by omega)]
  refine lv_aload_n hx hb dL_law_1390 rfl (lv_at hl 3 rfl) ?_
  obtain ⟨k2, r1, w3, hq4, hf⟩ := qbdn_s hf
  refine q_callL (As := [.ref (ad 228), .int (xs (i + 1)), .ref o]) (rest := []) hC hR (mL_catAt (qJ hC) hst hq4) hO ho qk_856 qk_857 qk_57 qkl_858 qhd_L_catAt ⟨Nat.le_of_ble_eq_true rfl, Nat.le_of_ble_eq_true rfl⟩ hl.1 rfl (Nat.le_of_ble_eq_true rfl) dL_law_1391 ⟨by show _ ≤ room_1.cells; omega, by show _ ≤ room_1.slots; omega⟩ (fun _ H locs hPA hz hk hO1 hR => ?_)
  have hOD := qOut_on2 hOD hne hz hk
  obtain ⟨f5, rfl, e6⟩ := hPA
  have hO := hO1
  refine lv_istore (lv' := [(6, .int k2), (0, .ref b), (1, .ref (ad 228)), (2, .ref (ad 238)), (3, .ref o), (4, .ref oD), (5, .int (nI i))]) hx hb dL_law_1394 hl (by decide) rfl (fun ls hl => ?_)
  refine lv_aload_n hx hb dL_law_1396 rfl (lv_at hl 3 rfl) ?_
  refine lv_aload_n hx hb dL_law_1397 rfl (lv_at hl 1 rfl) ?_
  refine lv_iload hx hb dL_law_1398 (lv_at hl 6 rfl) ?_
  refine lv_iconst (v := 1) hx hb dL_law_1400 (by decide) ?_
  refine lv_iadd hx hb dL_law_1401 ?_
  rw [show nI i + 1 = nI (i + 1) from nI_add i 1]
  refine va_sld hx hb hX hbl hbA hR.2 (vp_in_nI (by omega) (by omega)) dL_law_1402 ?_
  rw [nI_clamp (by omega)]
  obtain ⟨b7, w9, hq8, hf⟩ := qbd2_s hf
  refine q_ki (As := [.int (xs (i + 1))]) (rest := []) hC hR (mX6_catAt (qJ hC) hq8) (by decide) (qsh_238 G ad _) rfl qk_1405 qk_1406 qk_1407 qk_64 qk_1408 qhd_X6_catAt ⟨Nat.le_of_ble_eq_true rfl, Nat.le_of_ble_eq_true rfl⟩ hl.1 rfl (Nat.le_of_ble_eq_true rfl) dL_law_1403 ⟨by show _ ≤ room_1.cells; omega, by show _ ≤ room_1.slots; omega⟩ (fun H locs hz hk hR => ?_)
  have hO := qX_on qOut_k hO hz hk
  have hOD := qX_on qOut_k hOD hz hk
  refine lv_istore (lv' := [(7, .int b7), (6, .int k2), (0, .ref b), (1, .ref (ad 228)), (2, .ref (ad 238)), (3, .ref o), (4, .ref oD), (5, .int (nI i))]) hx hb dL_law_1406 hl (by decide) rfl (fun ls hl => ?_)
  refine lv_aload_n hx hb dL_law_1408 rfl (lv_at hl 4 rfl) ?_
  obtain ⟨b10, hq11, hf⟩ := qbd_s hf
  refine q_ki (As := []) (rest := []) hC hR (mX6_thrown (qJ hC) hq11) (by decide) (qsh_238 G ad _) rfl qk_1189 qk_1190 qk_1191 qk_64 qk_1192 qhd_X6_thrown ⟨Nat.le_of_ble_eq_true rfl, Nat.le_of_ble_eq_true rfl⟩ hl.1 rfl (Nat.le_of_ble_eq_true rfl) dL_law_1409 ⟨by show _ ≤ room_1.cells; omega, by show _ ≤ room_1.slots; omega⟩ (fun H locs hz hk hR => ?_)
  have hO := qX_on qOut_k hO hz hk
  have hOD := qX_on qOut_k hOD hz hk
  refine lv_iload hx hb dL_law_1412 (lv_at hl 1 rfl) ?_
  obtain ⟨g12, hf⟩ := qgd hf
  refine lv_icmp_eq (tgt := 1419) hx hb dL_law_1414 (by decide) (fun _ => ?_) (fun c_1 => absurd g12 c_1)
  refine lv_iload hx hb dL_law_1419 (lv_at hl 1 rfl) ?_
  refine lv_if_ne (tgt := 1436) hx hb dL_law_1421 (by decide) (fun c13 => ?_) (fun c13 => ?_)
  · have hf := qif_f hf c13
    refine lv_goto (tgt := 2120) hx hb dL_law_1436 (by decide) ?_
    have hwe := qso hf
    subst hwe
    exact kk _ _ _ _ _ _ _ (by omega) (by omega) hR hO hOD (lv_sub hl [2, 3, 4, 5, 6, 7] rfl)
  · have hf := qif_t hf c13
    obtain ⟨g14, hf⟩ := qgd hf
    have hwe := qso hf
    subst hwe
    subst g14
    refine lv_aload_n hx hb dL_law_1424 rfl (lv_at hl 5 rfl) ?_
    refine lv_iconst (v := 0) hx hb dL_law_1425 (by decide) ?_
    refine q_lald hC hO (e6 c13) dL_law_1426 ?_
    refine lv_iload hx hb dL_law_1427 (lv_at hl 0 rfl) ?_
    refine lv_i2l hx hb dL_law_1429 rfl ?_
    refine W.lcmp hx hb dL_law_1430 ?_
    rw [qcmp0]
    refine lv_if_eq (tgt := 1436) hx hb dL_law_1431 (by decide) (fun _ => ?_) (fun c_1 => absurd rfl c_1)
    refine lv_goto (tgt := 2120) hx hb dL_law_1436 (by decide) ?_
    exact kk _ _ _ _ _ _ _ (by omega) (by omega) hR hO hOD (lv_sub hl [2, 3, 4, 5, 6, 7] rfl)
def qs_23 (w : qMem) (a1 a2 a3 : Int32) : Option qMem :=
  qbdn (fL_onFloor w a1 a2) fun (k2 : Int32) (r1 : Int32) (w3 : qMem) =>
  qbd2 (fX6_onFloor w3 a1 a2) fun (b7 : Int32) (w9 : qMem) =>
  qbd (fX6_thrown w9) fun (b10 : Int32) =>
  if b10 = k2 then
  if k2 = 0 then
    if r1 = b7 then
    some w9
    else none
  else
    some w9
  else none

set_option maxHeartbeats 4000000 in
set_option maxRecDepth 100000 in
theorem law_23 {p : Program} {l : Launch} {e : Env} {s : State} {m : MethodId} {args : Array Value} {below : List Frame} {meth : Method} {c0 : Code} {Q : State → Prop} {D : va_G} {G : Nat → ClassId} {ad : Nat → Nat} {b L o oD : Nat} {xs : Nat → Int32} {cl cd : ClassId} (hW : qLw p l s m args meth c0 D G ad b L o oD xs) {w wF : qMem} {i : Nat} (hi : i + 3 < L) {H : Heap} {locs : List Loc} {ls : Array Slot} {cc cs : Nat} {f0 : Nat → Int64} {g0 : Nat → UInt64} (hR : qRp D G ad s w H locs) (hO : qOut o cl .long (1, .inr (.inl f0)) (qAdr ad H.size) s H) (hOD : qOut oD cd .double (1, .inr (.inr (.inr (.inl g0)))) (qAdr ad H.size) s H) (hl : lv_has ls 9 (qlvs b o oD i ad)) (hf : qs_23 w (xs (i + 1)) (xs (i + 2)) (xs (i + 3)) = some wF) (hcc : cc + 320 ≤ room_1.cells) (hcs : cs + 2000 ≤ room_1.slots) (kk : ∀ (H : Heap) (locs : List Loc) (ls : Array Slot) (f0 : Nat → Int64) (g0 : Nat → UInt64) (cc1 cs1 : Nat), cc1 ≤ cc + 320 → cs1 ≤ cs + 2000 → qRp D G ad s wF H locs → qOut o cl .long (1, .inr (.inl f0)) (qAdr ad H.size) s H → qOut oD cd .double (1, .inr (.inr (.inr (.inl g0)))) (qAdr ad H.size) s H → lv_has ls 9 (qlvs b o oD i ad) → W p l e room_1 s m args below meth c0 H locs cc1 cs1 Q (F0 m 2120 ls [])) : W p l e room_1 s m args below meth c0 H locs cc cs Q (F0 m 1439 ls []) := by
  obtain ⟨hC, hst, hX, hbl, hbA, hL, ho, hoD, hne⟩ := hW
  have hx := hC.1
  have hb := hC.2.1
  have hl : lv_has ls 9 [(0, .ref b), (1, .ref (ad 228)), (2, .ref (ad 238)), (3, .ref o), (4, .ref oD), (5, .int (nI i))] := hl
  unfold qs_23 at hf
  refine lv_aload_n hx hb dL_law_1439 rfl (lv_at hl 1 rfl) ?_
  refine lv_aload_n hx hb dL_law_1440 rfl (lv_at hl 0 rfl) ?_
  refine lv_iload hx hb dL_law_1441 (lv_at hl 5 rfl) ?_
  refine lv_iconst (v := 1) hx hb dL_law_1443 (by decide) ?_
  refine lv_iadd hx hb dL_law_1444 ?_
  rw [show nI i + 1 = nI (i + 1) from nI_add i 1]
  refine va_sld hx hb hX hbl hbA hR.2 (vp_in_nI (by omega) (by omega)) dL_law_1445 ?_
  rw [nI_clamp (by omega)]
  refine lv_aload_n hx hb dL_law_1446 rfl (lv_at hl 0 rfl) ?_
  refine lv_iload hx hb dL_law_1447 (lv_at hl 5 rfl) ?_
  refine lv_iconst (v := 2) hx hb dL_law_1449 (by decide) ?_
  refine lv_iadd hx hb dL_law_1450 ?_
  rw [show nI i + 2 = nI (i + 2) from nI_add i 2]
  refine va_sld hx hb hX hbl hbA hR.2 (vp_in_nI (by omega) (by omega)) dL_law_1451 ?_
  rw [nI_clamp (by omega)]
  refine lv_aload_n hx hb dL_law_1452 rfl (lv_at hl 3 rfl) ?_
  obtain ⟨k2, r1, w3, hq4, hf⟩ := qbdn_s hf
  refine q_callL (As := [.ref (ad 228), .int (xs (i + 1)), .int (xs (i + 2)), .ref o]) (rest := []) hC hR (mL_onFloor (qJ hC) hst hq4) hO ho qk_863 qk_864 qk_57 qkl_865 qhd_L_onFloor ⟨Nat.le_of_ble_eq_true rfl, Nat.le_of_ble_eq_true rfl⟩ hl.1 rfl (Nat.le_of_ble_eq_true rfl) dL_law_1453 ⟨by show _ ≤ room_1.cells; omega, by show _ ≤ room_1.slots; omega⟩ (fun _ H locs hPA hz hk hO1 hR => ?_)
  have hOD := qOut_on2 hOD hne hz hk
  obtain ⟨f5, rfl, e6⟩ := hPA
  have hO := hO1
  refine lv_istore (lv' := [(6, .int k2), (0, .ref b), (1, .ref (ad 228)), (2, .ref (ad 238)), (3, .ref o), (4, .ref oD), (5, .int (nI i))]) hx hb dL_law_1456 hl (by decide) rfl (fun ls hl => ?_)
  refine lv_aload_n hx hb dL_law_1458 rfl (lv_at hl 3 rfl) ?_
  refine lv_aload_n hx hb dL_law_1459 rfl (lv_at hl 1 rfl) ?_
  refine lv_iload hx hb dL_law_1460 (lv_at hl 6 rfl) ?_
  refine lv_iconst (v := 1) hx hb dL_law_1462 (by decide) ?_
  refine lv_iadd hx hb dL_law_1463 ?_
  rw [show nI i + 1 = nI (i + 1) from nI_add i 1]
  refine va_sld hx hb hX hbl hbA hR.2 (vp_in_nI (by omega) (by omega)) dL_law_1464 ?_
  rw [nI_clamp (by omega)]
  refine lv_aload_n hx hb dL_law_1465 rfl (lv_at hl 1 rfl) ?_
  refine lv_iload hx hb dL_law_1466 (lv_at hl 6 rfl) ?_
  refine lv_iconst (v := 2) hx hb dL_law_1468 (by decide) ?_
  refine lv_iadd hx hb dL_law_1469 ?_
  rw [show nI i + 2 = nI (i + 2) from nI_add i 2]
  refine va_sld hx hb hX hbl hbA hR.2 (vp_in_nI (by omega) (by omega)) dL_law_1470 ?_
  rw [nI_clamp (by omega)]
  obtain ⟨b7, w9, hq8, hf⟩ := qbd2_s hf
  refine q_ki (As := [.int (xs (i + 1)), .int (xs (i + 2))]) (rest := []) hC hR (mX6_onFloor (qJ hC) hq8) (by decide) (qsh_238 G ad _) rfl qk_1409 qk_1410 qk_1411 qk_64 qk_1412 qhd_X6_onFloor ⟨Nat.le_of_ble_eq_true rfl, Nat.le_of_ble_eq_true rfl⟩ hl.1 rfl (Nat.le_of_ble_eq_true rfl) dL_law_1471 ⟨by show _ ≤ room_1.cells; omega, by show _ ≤ room_1.slots; omega⟩ (fun H locs hz hk hR => ?_)
  have hO := qX_on qOut_k hO hz hk
  have hOD := qX_on qOut_k hOD hz hk
  refine lv_istore (lv' := [(7, .int b7), (6, .int k2), (0, .ref b), (1, .ref (ad 228)), (2, .ref (ad 238)), (3, .ref o), (4, .ref oD), (5, .int (nI i))]) hx hb dL_law_1474 hl (by decide) rfl (fun ls hl => ?_)
  refine lv_aload_n hx hb dL_law_1476 rfl (lv_at hl 4 rfl) ?_
  obtain ⟨b10, hq11, hf⟩ := qbd_s hf
  refine q_ki (As := []) (rest := []) hC hR (mX6_thrown (qJ hC) hq11) (by decide) (qsh_238 G ad _) rfl qk_1189 qk_1190 qk_1191 qk_64 qk_1192 qhd_X6_thrown ⟨Nat.le_of_ble_eq_true rfl, Nat.le_of_ble_eq_true rfl⟩ hl.1 rfl (Nat.le_of_ble_eq_true rfl) dL_law_1477 ⟨by show _ ≤ room_1.cells; omega, by show _ ≤ room_1.slots; omega⟩ (fun H locs hz hk hR => ?_)
  have hO := qX_on qOut_k hO hz hk
  have hOD := qX_on qOut_k hOD hz hk
  refine lv_iload hx hb dL_law_1480 (lv_at hl 1 rfl) ?_
  obtain ⟨g12, hf⟩ := qgd hf
  refine lv_icmp_eq (tgt := 1487) hx hb dL_law_1482 (by decide) (fun _ => ?_) (fun c_1 => absurd g12 c_1)
  refine lv_iload hx hb dL_law_1487 (lv_at hl 1 rfl) ?_
  refine lv_if_ne (tgt := 1504) hx hb dL_law_1489 (by decide) (fun c13 => ?_) (fun c13 => ?_)
  · have hf := qif_f hf c13
    refine lv_goto (tgt := 2120) hx hb dL_law_1504 (by decide) ?_
    have hwe := qso hf
    subst hwe
    exact kk _ _ _ _ _ _ _ (by omega) (by omega) hR hO hOD (lv_sub hl [2, 3, 4, 5, 6, 7] rfl)
  · have hf := qif_t hf c13
    obtain ⟨g14, hf⟩ := qgd hf
    have hwe := qso hf
    subst hwe
    subst g14
    refine lv_aload_n hx hb dL_law_1492 rfl (lv_at hl 5 rfl) ?_
    refine lv_iconst (v := 0) hx hb dL_law_1493 (by decide) ?_
    refine q_lald hC hO (e6 c13) dL_law_1494 ?_
    refine lv_iload hx hb dL_law_1495 (lv_at hl 0 rfl) ?_
    refine lv_i2l hx hb dL_law_1497 rfl ?_
    refine W.lcmp hx hb dL_law_1498 ?_
    rw [qcmp0]
    refine lv_if_eq (tgt := 1504) hx hb dL_law_1499 (by decide) (fun _ => ?_) (fun c_1 => absurd rfl c_1)
    refine lv_goto (tgt := 2120) hx hb dL_law_1504 (by decide) ?_
    exact kk _ _ _ _ _ _ _ (by omega) (by omega) hR hO hOD (lv_sub hl [2, 3, 4, 5, 6, 7] rfl)
def qs_24 (w : qMem) (a1 a2 a3 : Int32) : Option qMem :=
  qbdn (fL_line w a1) fun (k2 : Int32) (r1 : Int32) (w3 : qMem) =>
  qbd2 (fX6_line w3 a1) fun (b7 : Int32) (w9 : qMem) =>
  qbd (fX6_thrown w9) fun (b10 : Int32) =>
  if b10 = k2 then
  if k2 = 0 then
    if r1 = b7 then
    some w9
    else none
  else
    some w9
  else none

set_option maxHeartbeats 4000000 in
set_option maxRecDepth 100000 in
theorem law_24 {p : Program} {l : Launch} {e : Env} {s : State} {m : MethodId} {args : Array Value} {below : List Frame} {meth : Method} {c0 : Code} {Q : State → Prop} {D : va_G} {G : Nat → ClassId} {ad : Nat → Nat} {b L o oD : Nat} {xs : Nat → Int32} {cl cd : ClassId} (hW : qLw p l s m args meth c0 D G ad b L o oD xs) {w wF : qMem} {i : Nat} (hi : i + 3 < L) {H : Heap} {locs : List Loc} {ls : Array Slot} {cc cs : Nat} {f0 : Nat → Int64} {g0 : Nat → UInt64} (hR : qRp D G ad s w H locs) (hO : qOut o cl .long (1, .inr (.inl f0)) (qAdr ad H.size) s H) (hOD : qOut oD cd .double (1, .inr (.inr (.inr (.inl g0)))) (qAdr ad H.size) s H) (hl : lv_has ls 9 (qlvs b o oD i ad)) (hf : qs_24 w (xs (i + 1)) (xs (i + 2)) (xs (i + 3)) = some wF) (hcc : cc + 320 ≤ room_1.cells) (hcs : cs + 2000 ≤ room_1.slots) (kk : ∀ (H : Heap) (locs : List Loc) (ls : Array Slot) (f0 : Nat → Int64) (g0 : Nat → UInt64) (cc1 cs1 : Nat), cc1 ≤ cc + 320 → cs1 ≤ cs + 2000 → qRp D G ad s wF H locs → qOut o cl .long (1, .inr (.inl f0)) (qAdr ad H.size) s H → qOut oD cd .double (1, .inr (.inr (.inr (.inl g0)))) (qAdr ad H.size) s H → lv_has ls 9 (qlvs b o oD i ad) → W p l e room_1 s m args below meth c0 H locs cc1 cs1 Q (F0 m 2120 ls [])) : W p l e room_1 s m args below meth c0 H locs cc cs Q (F0 m 1507 ls []) := by
  obtain ⟨hC, hst, hX, hbl, hbA, hL, ho, hoD, hne⟩ := hW
  have hx := hC.1
  have hb := hC.2.1
  have hl : lv_has ls 9 [(0, .ref b), (1, .ref (ad 228)), (2, .ref (ad 238)), (3, .ref o), (4, .ref oD), (5, .int (nI i))] := hl
  unfold qs_24 at hf
  refine lv_aload_n hx hb dL_law_1507 rfl (lv_at hl 1 rfl) ?_
  refine lv_aload_n hx hb dL_law_1508 rfl (lv_at hl 0 rfl) ?_
  refine lv_iload hx hb dL_law_1509 (lv_at hl 5 rfl) ?_
  refine lv_iconst (v := 1) hx hb dL_law_1511 (by decide) ?_
  refine lv_iadd hx hb dL_law_1512 ?_
  rw [show nI i + 1 = nI (i + 1) from nI_add i 1]
  refine va_sld hx hb hX hbl hbA hR.2 (vp_in_nI (by omega) (by omega)) dL_law_1513 ?_
  rw [nI_clamp (by omega)]
  refine lv_aload_n hx hb dL_law_1514 rfl (lv_at hl 3 rfl) ?_
  obtain ⟨k2, r1, w3, hq4, hf⟩ := qbdn_s hf
  refine q_callL (As := [.ref (ad 228), .int (xs (i + 1)), .ref o]) (rest := []) hC hR (mL_line (qJ hC) hst hq4) hO ho qk_871 qk_872 qk_57 qkl_873 qhd_L_line ⟨Nat.le_of_ble_eq_true rfl, Nat.le_of_ble_eq_true rfl⟩ hl.1 rfl (Nat.le_of_ble_eq_true rfl) dL_law_1515 ⟨by show _ ≤ room_1.cells; omega, by show _ ≤ room_1.slots; omega⟩ (fun _ H locs hPA hz hk hO1 hR => ?_)
  have hOD := qOut_on2 hOD hne hz hk
  obtain ⟨f5, rfl, e6⟩ := hPA
  have hO := hO1
  refine lv_istore (lv' := [(6, .int k2), (0, .ref b), (1, .ref (ad 228)), (2, .ref (ad 238)), (3, .ref o), (4, .ref oD), (5, .int (nI i))]) hx hb dL_law_1518 hl (by decide) rfl (fun ls hl => ?_)
  refine lv_aload_n hx hb dL_law_1520 rfl (lv_at hl 3 rfl) ?_
  refine lv_aload_n hx hb dL_law_1521 rfl (lv_at hl 1 rfl) ?_
  refine lv_iload hx hb dL_law_1522 (lv_at hl 6 rfl) ?_
  refine lv_iconst (v := 1) hx hb dL_law_1524 (by decide) ?_
  refine lv_iadd hx hb dL_law_1525 ?_
  rw [show nI i + 1 = nI (i + 1) from nI_add i 1]
  refine va_sld hx hb hX hbl hbA hR.2 (vp_in_nI (by omega) (by omega)) dL_law_1526 ?_
  rw [nI_clamp (by omega)]
  obtain ⟨b7, w9, hq8, hf⟩ := qbd2_s hf
  refine q_ki (As := [.int (xs (i + 1))]) (rest := []) hC hR (mX6_line (qJ hC) hq8) (by decide) (qsh_238 G ad _) rfl qk_1413 qk_1414 qk_1415 qk_64 qk_1416 qhd_X6_line ⟨Nat.le_of_ble_eq_true rfl, Nat.le_of_ble_eq_true rfl⟩ hl.1 rfl (Nat.le_of_ble_eq_true rfl) dL_law_1527 ⟨by show _ ≤ room_1.cells; omega, by show _ ≤ room_1.slots; omega⟩ (fun H locs hz hk hR => ?_)
  have hO := qX_on qOut_k hO hz hk
  have hOD := qX_on qOut_k hOD hz hk
  refine lv_istore (lv' := [(7, .int b7), (6, .int k2), (0, .ref b), (1, .ref (ad 228)), (2, .ref (ad 238)), (3, .ref o), (4, .ref oD), (5, .int (nI i))]) hx hb dL_law_1530 hl (by decide) rfl (fun ls hl => ?_)
  refine lv_aload_n hx hb dL_law_1532 rfl (lv_at hl 4 rfl) ?_
  obtain ⟨b10, hq11, hf⟩ := qbd_s hf
  refine q_ki (As := []) (rest := []) hC hR (mX6_thrown (qJ hC) hq11) (by decide) (qsh_238 G ad _) rfl qk_1189 qk_1190 qk_1191 qk_64 qk_1192 qhd_X6_thrown ⟨Nat.le_of_ble_eq_true rfl, Nat.le_of_ble_eq_true rfl⟩ hl.1 rfl (Nat.le_of_ble_eq_true rfl) dL_law_1533 ⟨by show _ ≤ room_1.cells; omega, by show _ ≤ room_1.slots; omega⟩ (fun H locs hz hk hR => ?_)
  have hO := qX_on qOut_k hO hz hk
  have hOD := qX_on qOut_k hOD hz hk
  refine lv_iload hx hb dL_law_1536 (lv_at hl 1 rfl) ?_
  obtain ⟨g12, hf⟩ := qgd hf
  refine lv_icmp_eq (tgt := 1543) hx hb dL_law_1538 (by decide) (fun _ => ?_) (fun c_1 => absurd g12 c_1)
  refine lv_iload hx hb dL_law_1543 (lv_at hl 1 rfl) ?_
  refine lv_if_ne (tgt := 1560) hx hb dL_law_1545 (by decide) (fun c13 => ?_) (fun c13 => ?_)
  · have hf := qif_f hf c13
    refine lv_goto (tgt := 2120) hx hb dL_law_1560 (by decide) ?_
    have hwe := qso hf
    subst hwe
    exact kk _ _ _ _ _ _ _ (by omega) (by omega) hR hO hOD (lv_sub hl [2, 3, 4, 5, 6, 7] rfl)
  · have hf := qif_t hf c13
    obtain ⟨g14, hf⟩ := qgd hf
    have hwe := qso hf
    subst hwe
    subst g14
    refine lv_aload_n hx hb dL_law_1548 rfl (lv_at hl 5 rfl) ?_
    refine lv_iconst (v := 0) hx hb dL_law_1549 (by decide) ?_
    refine q_lald hC hO (e6 c13) dL_law_1550 ?_
    refine lv_iload hx hb dL_law_1551 (lv_at hl 0 rfl) ?_
    refine lv_i2l hx hb dL_law_1553 rfl ?_
    refine W.lcmp hx hb dL_law_1554 ?_
    rw [qcmp0]
    refine lv_if_eq (tgt := 1560) hx hb dL_law_1555 (by decide) (fun _ => ?_) (fun c_1 => absurd rfl c_1)
    refine lv_goto (tgt := 2120) hx hb dL_law_1560 (by decide) ?_
    exact kk _ _ _ _ _ _ _ (by omega) (by omega) hR hO hOD (lv_sub hl [2, 3, 4, 5, 6, 7] rfl)
def qs_25 (w : qMem) (a1 a2 a3 : Int32) : Option qMem :=
  qbd2 (fX5_programmeLine w) fun (b1 : Int32) (w3 : qMem) =>
  qbd2 (fX6_programmeLine w3) fun (b4 : Int32) (w6 : qMem) =>
  if b1 = b4 then
  some w6
  else none

set_option maxHeartbeats 4000000 in
set_option maxRecDepth 100000 in
theorem law_25 {p : Program} {l : Launch} {e : Env} {s : State} {m : MethodId} {args : Array Value} {below : List Frame} {meth : Method} {c0 : Code} {Q : State → Prop} {D : va_G} {G : Nat → ClassId} {ad : Nat → Nat} {b L o oD : Nat} {xs : Nat → Int32} {cl cd : ClassId} (hW : qLw p l s m args meth c0 D G ad b L o oD xs) {w wF : qMem} {i : Nat} (hi : i + 3 < L) {H : Heap} {locs : List Loc} {ls : Array Slot} {cc cs : Nat} {f0 : Nat → Int64} {g0 : Nat → UInt64} (hR : qRp D G ad s w H locs) (hO : qOut o cl .long (1, .inr (.inl f0)) (qAdr ad H.size) s H) (hOD : qOut oD cd .double (1, .inr (.inr (.inr (.inl g0)))) (qAdr ad H.size) s H) (hl : lv_has ls 9 (qlvs b o oD i ad)) (hf : qs_25 w (xs (i + 1)) (xs (i + 2)) (xs (i + 3)) = some wF) (hcc : cc + 320 ≤ room_1.cells) (hcs : cs + 2000 ≤ room_1.slots) (kk : ∀ (H : Heap) (locs : List Loc) (ls : Array Slot) (f0 : Nat → Int64) (g0 : Nat → UInt64) (cc1 cs1 : Nat), cc1 ≤ cc + 320 → cs1 ≤ cs + 2000 → qRp D G ad s wF H locs → qOut o cl .long (1, .inr (.inl f0)) (qAdr ad H.size) s H → qOut oD cd .double (1, .inr (.inr (.inr (.inl g0)))) (qAdr ad H.size) s H → lv_has ls 9 (qlvs b o oD i ad) → W p l e room_1 s m args below meth c0 H locs cc1 cs1 Q (F0 m 2120 ls [])) : W p l e room_1 s m args below meth c0 H locs cc cs Q (F0 m 1563 ls []) := by
  obtain ⟨hC, hst, hX, hbl, hbA, hL, ho, hoD, hne⟩ := hW
  have hx := hC.1
  have hb := hC.2.1
  have hl : lv_has ls 9 [(0, .ref b), (1, .ref (ad 228)), (2, .ref (ad 238)), (3, .ref o), (4, .ref oD), (5, .int (nI i))] := hl
  unfold qs_25 at hf
  refine lv_aload_n hx hb dL_law_1563 rfl (lv_at hl 1 rfl) ?_
  obtain ⟨b1, w3, hq2, hf⟩ := qbd2_s hf
  refine q_ki (As := []) (rest := []) hC hR (mX5_programmeLine (qJ hC) hq2) (by decide) (qsh_228 G ad _) rfl qk_475 qk_476 qk_477 qk_58 qk_478 qhd_X5_programmeLine ⟨Nat.le_of_ble_eq_true rfl, Nat.le_of_ble_eq_true rfl⟩ hl.1 rfl (Nat.le_of_ble_eq_true rfl) dL_law_1564 ⟨by show _ ≤ room_1.cells; omega, by show _ ≤ room_1.slots; omega⟩ (fun H locs hz hk hR => ?_)
  have hO := qX_on qOut_k hO hz hk
  have hOD := qX_on qOut_k hOD hz hk
  refine lv_aload_n hx hb dL_law_1567 rfl (lv_at hl 2 rfl) ?_
  obtain ⟨b4, w6, hq5, hf⟩ := qbd2_s hf
  refine q_ki (As := []) (rest := [.int b1]) hC hR (mX6_programmeLine (qJ hC) hq5) (by decide) (qsh_238 G ad _) rfl qk_1431 qk_1432 qk_1433 qk_64 qk_1434 qhd_X6_programmeLine ⟨Nat.le_of_ble_eq_true rfl, Nat.le_of_ble_eq_true rfl⟩ hl.1 rfl (Nat.le_of_ble_eq_true rfl) dL_law_1568 ⟨by show _ ≤ room_1.cells; omega, by show _ ≤ room_1.slots; omega⟩ (fun H locs hz hk hR => ?_)
  have hO := qX_on qOut_k hO hz hk
  have hOD := qX_on qOut_k hOD hz hk
  obtain ⟨g7, hf⟩ := qgd hf
  refine lv_icmp_eq (tgt := 2120) hx hb dL_law_1571 (by decide) (fun _ => ?_) (fun c_1 => absurd g7 c_1)
  have hwe := qso hf
  subst hwe
  exact kk _ _ _ _ _ _ _ (by omega) (by omega) hR hO hOD (lv_sub hl [0, 1, 2, 3, 4, 5] rfl)
def qs_26 (w : qMem) (a1 a2 a3 : Int32) : Option qMem :=
  qbdn (fL_character w a1) fun (k2 : Int32) (r1 : Int32) (w3 : qMem) =>
  qbd2 (fX6_character w3 a1) fun (b7 : Int32) (w9 : qMem) =>
  qbd (fX6_thrown w9) fun (b10 : Int32) =>
  if b10 = k2 then
  if k2 = 0 then
    if r1 = b7 then
    some w9
    else none
  else
    some w9
  else none

set_option maxHeartbeats 4000000 in
set_option maxRecDepth 100000 in
theorem law_26 {p : Program} {l : Launch} {e : Env} {s : State} {m : MethodId} {args : Array Value} {below : List Frame} {meth : Method} {c0 : Code} {Q : State → Prop} {D : va_G} {G : Nat → ClassId} {ad : Nat → Nat} {b L o oD : Nat} {xs : Nat → Int32} {cl cd : ClassId} (hW : qLw p l s m args meth c0 D G ad b L o oD xs) {w wF : qMem} {i : Nat} (hi : i + 3 < L) {H : Heap} {locs : List Loc} {ls : Array Slot} {cc cs : Nat} {f0 : Nat → Int64} {g0 : Nat → UInt64} (hR : qRp D G ad s w H locs) (hO : qOut o cl .long (1, .inr (.inl f0)) (qAdr ad H.size) s H) (hOD : qOut oD cd .double (1, .inr (.inr (.inr (.inl g0)))) (qAdr ad H.size) s H) (hl : lv_has ls 9 (qlvs b o oD i ad)) (hf : qs_26 w (xs (i + 1)) (xs (i + 2)) (xs (i + 3)) = some wF) (hcc : cc + 320 ≤ room_1.cells) (hcs : cs + 2000 ≤ room_1.slots) (kk : ∀ (H : Heap) (locs : List Loc) (ls : Array Slot) (f0 : Nat → Int64) (g0 : Nat → UInt64) (cc1 cs1 : Nat), cc1 ≤ cc + 320 → cs1 ≤ cs + 2000 → qRp D G ad s wF H locs → qOut o cl .long (1, .inr (.inl f0)) (qAdr ad H.size) s H → qOut oD cd .double (1, .inr (.inr (.inr (.inl g0)))) (qAdr ad H.size) s H → lv_has ls 9 (qlvs b o oD i ad) → W p l e room_1 s m args below meth c0 H locs cc1 cs1 Q (F0 m 2120 ls [])) : W p l e room_1 s m args below meth c0 H locs cc cs Q (F0 m 1576 ls []) := by
  obtain ⟨hC, hst, hX, hbl, hbA, hL, ho, hoD, hne⟩ := hW
  have hx := hC.1
  have hb := hC.2.1
  have hl : lv_has ls 9 [(0, .ref b), (1, .ref (ad 228)), (2, .ref (ad 238)), (3, .ref o), (4, .ref oD), (5, .int (nI i))] := hl
  unfold qs_26 at hf
  refine lv_aload_n hx hb dL_law_1576 rfl (lv_at hl 1 rfl) ?_
  refine lv_aload_n hx hb dL_law_1577 rfl (lv_at hl 0 rfl) ?_
  refine lv_iload hx hb dL_law_1578 (lv_at hl 5 rfl) ?_
  refine lv_iconst (v := 1) hx hb dL_law_1580 (by decide) ?_
  refine lv_iadd hx hb dL_law_1581 ?_
  rw [show nI i + 1 = nI (i + 1) from nI_add i 1]
  refine va_sld hx hb hX hbl hbA hR.2 (vp_in_nI (by omega) (by omega)) dL_law_1582 ?_
  rw [nI_clamp (by omega)]
  refine lv_aload_n hx hb dL_law_1583 rfl (lv_at hl 3 rfl) ?_
  obtain ⟨k2, r1, w3, hq4, hf⟩ := qbdn_s hf
  refine q_callL (As := [.ref (ad 228), .int (xs (i + 1)), .ref o]) (rest := []) hC hR (mL_character (qJ hC) hst hq4) hO ho qk_882 qk_883 qk_57 qkl_884 qhd_L_character ⟨Nat.le_of_ble_eq_true rfl, Nat.le_of_ble_eq_true rfl⟩ hl.1 rfl (Nat.le_of_ble_eq_true rfl) dL_law_1584 ⟨by show _ ≤ room_1.cells; omega, by show _ ≤ room_1.slots; omega⟩ (fun _ H locs hPA hz hk hO1 hR => ?_)
  have hOD := qOut_on2 hOD hne hz hk
  obtain ⟨f5, rfl, e6⟩ := hPA
  have hO := hO1
  refine lv_istore (lv' := [(6, .int k2), (0, .ref b), (1, .ref (ad 228)), (2, .ref (ad 238)), (3, .ref o), (4, .ref oD), (5, .int (nI i))]) hx hb dL_law_1587 hl (by decide) rfl (fun ls hl => ?_)
  refine lv_aload_n hx hb dL_law_1589 rfl (lv_at hl 3 rfl) ?_
  refine lv_aload_n hx hb dL_law_1590 rfl (lv_at hl 1 rfl) ?_
  refine lv_iload hx hb dL_law_1591 (lv_at hl 6 rfl) ?_
  refine lv_iconst (v := 1) hx hb dL_law_1593 (by decide) ?_
  refine lv_iadd hx hb dL_law_1594 ?_
  rw [show nI i + 1 = nI (i + 1) from nI_add i 1]
  refine va_sld hx hb hX hbl hbA hR.2 (vp_in_nI (by omega) (by omega)) dL_law_1595 ?_
  rw [nI_clamp (by omega)]
  obtain ⟨b7, w9, hq8, hf⟩ := qbd2_s hf
  refine q_ki (As := [.int (xs (i + 1))]) (rest := []) hC hR (mX6_character (qJ hC) hq8) (by decide) (qsh_238 G ad _) rfl qk_1435 qk_1436 qk_1437 qk_64 qk_1438 qhd_X6_character ⟨Nat.le_of_ble_eq_true rfl, Nat.le_of_ble_eq_true rfl⟩ hl.1 rfl (Nat.le_of_ble_eq_true rfl) dL_law_1596 ⟨by show _ ≤ room_1.cells; omega, by show _ ≤ room_1.slots; omega⟩ (fun H locs hz hk hR => ?_)
  have hO := qX_on qOut_k hO hz hk
  have hOD := qX_on qOut_k hOD hz hk
  refine lv_istore (lv' := [(7, .int b7), (6, .int k2), (0, .ref b), (1, .ref (ad 228)), (2, .ref (ad 238)), (3, .ref o), (4, .ref oD), (5, .int (nI i))]) hx hb dL_law_1599 hl (by decide) rfl (fun ls hl => ?_)
  refine lv_aload_n hx hb dL_law_1601 rfl (lv_at hl 4 rfl) ?_
  obtain ⟨b10, hq11, hf⟩ := qbd_s hf
  refine q_ki (As := []) (rest := []) hC hR (mX6_thrown (qJ hC) hq11) (by decide) (qsh_238 G ad _) rfl qk_1189 qk_1190 qk_1191 qk_64 qk_1192 qhd_X6_thrown ⟨Nat.le_of_ble_eq_true rfl, Nat.le_of_ble_eq_true rfl⟩ hl.1 rfl (Nat.le_of_ble_eq_true rfl) dL_law_1602 ⟨by show _ ≤ room_1.cells; omega, by show _ ≤ room_1.slots; omega⟩ (fun H locs hz hk hR => ?_)
  have hO := qX_on qOut_k hO hz hk
  have hOD := qX_on qOut_k hOD hz hk
  refine lv_iload hx hb dL_law_1605 (lv_at hl 1 rfl) ?_
  obtain ⟨g12, hf⟩ := qgd hf
  refine lv_icmp_eq (tgt := 1612) hx hb dL_law_1607 (by decide) (fun _ => ?_) (fun c_1 => absurd g12 c_1)
  refine lv_iload hx hb dL_law_1612 (lv_at hl 1 rfl) ?_
  refine lv_if_ne (tgt := 1629) hx hb dL_law_1614 (by decide) (fun c13 => ?_) (fun c13 => ?_)
  · have hf := qif_f hf c13
    refine lv_goto (tgt := 2120) hx hb dL_law_1629 (by decide) ?_
    have hwe := qso hf
    subst hwe
    exact kk _ _ _ _ _ _ _ (by omega) (by omega) hR hO hOD (lv_sub hl [2, 3, 4, 5, 6, 7] rfl)
  · have hf := qif_t hf c13
    obtain ⟨g14, hf⟩ := qgd hf
    have hwe := qso hf
    subst hwe
    subst g14
    refine lv_aload_n hx hb dL_law_1617 rfl (lv_at hl 5 rfl) ?_
    refine lv_iconst (v := 0) hx hb dL_law_1618 (by decide) ?_
    refine q_lald hC hO (e6 c13) dL_law_1619 ?_
    refine lv_iload hx hb dL_law_1620 (lv_at hl 0 rfl) ?_
    refine lv_i2l hx hb dL_law_1622 rfl ?_
    refine W.lcmp hx hb dL_law_1623 ?_
    rw [qcmp0]
    refine lv_if_eq (tgt := 1629) hx hb dL_law_1624 (by decide) (fun _ => ?_) (fun c_1 => absurd rfl c_1)
    refine lv_goto (tgt := 2120) hx hb dL_law_1629 (by decide) ?_
    exact kk _ _ _ _ _ _ _ (by omega) (by omega) hR hO hOD (lv_sub hl [2, 3, 4, 5, 6, 7] rfl)
def qs_27 (w : qMem) (a1 a2 a3 : Int32) : Option qMem :=
  qbdn (fL_append w (((a1).toUInt32 % 65536).toInt32)) fun (k2 : Int32) (r1 : Int32) (w3 : qMem) =>
  qbd2 (fX6_append w3 (((a1).toUInt32 % 65536).toInt32)) fun (b7 : Int32) (w9 : qMem) =>
  qbd (fX6_thrown w9) fun (b10 : Int32) =>
  if b10 = k2 then
  if k2 = 0 then
    if r1 = b7 then
    some w9
    else none
  else
    some w9
  else none

set_option maxHeartbeats 4000000 in
set_option maxRecDepth 100000 in
theorem law_27 {p : Program} {l : Launch} {e : Env} {s : State} {m : MethodId} {args : Array Value} {below : List Frame} {meth : Method} {c0 : Code} {Q : State → Prop} {D : va_G} {G : Nat → ClassId} {ad : Nat → Nat} {b L o oD : Nat} {xs : Nat → Int32} {cl cd : ClassId} (hW : qLw p l s m args meth c0 D G ad b L o oD xs) {w wF : qMem} {i : Nat} (hi : i + 3 < L) {H : Heap} {locs : List Loc} {ls : Array Slot} {cc cs : Nat} {f0 : Nat → Int64} {g0 : Nat → UInt64} (hR : qRp D G ad s w H locs) (hO : qOut o cl .long (1, .inr (.inl f0)) (qAdr ad H.size) s H) (hOD : qOut oD cd .double (1, .inr (.inr (.inr (.inl g0)))) (qAdr ad H.size) s H) (hl : lv_has ls 9 (qlvs b o oD i ad)) (hf : qs_27 w (xs (i + 1)) (xs (i + 2)) (xs (i + 3)) = some wF) (hcc : cc + 320 ≤ room_1.cells) (hcs : cs + 2000 ≤ room_1.slots) (kk : ∀ (H : Heap) (locs : List Loc) (ls : Array Slot) (f0 : Nat → Int64) (g0 : Nat → UInt64) (cc1 cs1 : Nat), cc1 ≤ cc + 320 → cs1 ≤ cs + 2000 → qRp D G ad s wF H locs → qOut o cl .long (1, .inr (.inl f0)) (qAdr ad H.size) s H → qOut oD cd .double (1, .inr (.inr (.inr (.inl g0)))) (qAdr ad H.size) s H → lv_has ls 9 (qlvs b o oD i ad) → W p l e room_1 s m args below meth c0 H locs cc1 cs1 Q (F0 m 2120 ls [])) : W p l e room_1 s m args below meth c0 H locs cc cs Q (F0 m 1632 ls []) := by
  obtain ⟨hC, hst, hX, hbl, hbA, hL, ho, hoD, hne⟩ := hW
  have hx := hC.1
  have hb := hC.2.1
  have hl : lv_has ls 9 [(0, .ref b), (1, .ref (ad 228)), (2, .ref (ad 238)), (3, .ref o), (4, .ref oD), (5, .int (nI i))] := hl
  unfold qs_27 at hf
  refine lv_aload_n hx hb dL_law_1632 rfl (lv_at hl 1 rfl) ?_
  refine lv_aload_n hx hb dL_law_1633 rfl (lv_at hl 0 rfl) ?_
  refine lv_iload hx hb dL_law_1634 (lv_at hl 5 rfl) ?_
  refine lv_iconst (v := 1) hx hb dL_law_1636 (by decide) ?_
  refine lv_iadd hx hb dL_law_1637 ?_
  rw [show nI i + 1 = nI (i + 1) from nI_add i 1]
  refine va_sld hx hb hX hbl hbA hR.2 (vp_in_nI (by omega) (by omega)) dL_law_1638 ?_
  rw [nI_clamp (by omega)]
  refine lv_i2c hx hb dL_law_1639 rfl ?_
  refine lv_aload_n hx hb dL_law_1640 rfl (lv_at hl 3 rfl) ?_
  obtain ⟨k2, r1, w3, hq4, hf⟩ := qbdn_s hf
  refine q_callL (As := [.ref (ad 228), .int ((((xs (i + 1))).toUInt32 % 65536).toInt32), .ref o]) (rest := []) hC hR (mL_append (qJ hC) hst hq4) hO ho qk_894 qk_895 qk_57 qkl_896 qhd_L_append ⟨Nat.le_of_ble_eq_true rfl, Nat.le_of_ble_eq_true rfl⟩ hl.1 rfl (Nat.le_of_ble_eq_true rfl) dL_law_1641 ⟨by show _ ≤ room_1.cells; omega, by show _ ≤ room_1.slots; omega⟩ (fun _ H locs hPA hz hk hO1 hR => ?_)
  have hOD := qOut_on2 hOD hne hz hk
  obtain ⟨f5, rfl, e6⟩ := hPA
  have hO := hO1
  refine lv_istore (lv' := [(6, .int k2), (0, .ref b), (1, .ref (ad 228)), (2, .ref (ad 238)), (3, .ref o), (4, .ref oD), (5, .int (nI i))]) hx hb dL_law_1644 hl (by decide) rfl (fun ls hl => ?_)
  refine lv_aload_n hx hb dL_law_1646 rfl (lv_at hl 3 rfl) ?_
  refine lv_aload_n hx hb dL_law_1647 rfl (lv_at hl 1 rfl) ?_
  refine lv_iload hx hb dL_law_1648 (lv_at hl 6 rfl) ?_
  refine lv_iconst (v := 1) hx hb dL_law_1650 (by decide) ?_
  refine lv_iadd hx hb dL_law_1651 ?_
  rw [show nI i + 1 = nI (i + 1) from nI_add i 1]
  refine va_sld hx hb hX hbl hbA hR.2 (vp_in_nI (by omega) (by omega)) dL_law_1652 ?_
  rw [nI_clamp (by omega)]
  refine lv_i2c hx hb dL_law_1653 rfl ?_
  obtain ⟨b7, w9, hq8, hf⟩ := qbd2_s hf
  refine q_ki (As := [.int ((((xs (i + 1))).toUInt32 % 65536).toInt32)]) (rest := []) hC hR (mX6_append (qJ hC) hq8) (by decide) (qsh_238 G ad _) rfl qk_1439 qk_1440 qk_1441 qk_64 qk_1442 qhd_X6_append ⟨Nat.le_of_ble_eq_true rfl, Nat.le_of_ble_eq_true rfl⟩ hl.1 rfl (Nat.le_of_ble_eq_true rfl) dL_law_1654 ⟨by show _ ≤ room_1.cells; omega, by show _ ≤ room_1.slots; omega⟩ (fun H locs hz hk hR => ?_)
  have hO := qX_on qOut_k hO hz hk
  have hOD := qX_on qOut_k hOD hz hk
  refine lv_istore (lv' := [(7, .int b7), (6, .int k2), (0, .ref b), (1, .ref (ad 228)), (2, .ref (ad 238)), (3, .ref o), (4, .ref oD), (5, .int (nI i))]) hx hb dL_law_1657 hl (by decide) rfl (fun ls hl => ?_)
  refine lv_aload_n hx hb dL_law_1659 rfl (lv_at hl 4 rfl) ?_
  obtain ⟨b10, hq11, hf⟩ := qbd_s hf
  refine q_ki (As := []) (rest := []) hC hR (mX6_thrown (qJ hC) hq11) (by decide) (qsh_238 G ad _) rfl qk_1189 qk_1190 qk_1191 qk_64 qk_1192 qhd_X6_thrown ⟨Nat.le_of_ble_eq_true rfl, Nat.le_of_ble_eq_true rfl⟩ hl.1 rfl (Nat.le_of_ble_eq_true rfl) dL_law_1660 ⟨by show _ ≤ room_1.cells; omega, by show _ ≤ room_1.slots; omega⟩ (fun H locs hz hk hR => ?_)
  have hO := qX_on qOut_k hO hz hk
  have hOD := qX_on qOut_k hOD hz hk
  refine lv_iload hx hb dL_law_1663 (lv_at hl 1 rfl) ?_
  obtain ⟨g12, hf⟩ := qgd hf
  refine lv_icmp_eq (tgt := 1670) hx hb dL_law_1665 (by decide) (fun _ => ?_) (fun c_1 => absurd g12 c_1)
  refine lv_iload hx hb dL_law_1670 (lv_at hl 1 rfl) ?_
  refine lv_if_ne (tgt := 1687) hx hb dL_law_1672 (by decide) (fun c13 => ?_) (fun c13 => ?_)
  · have hf := qif_f hf c13
    refine lv_goto (tgt := 2120) hx hb dL_law_1687 (by decide) ?_
    have hwe := qso hf
    subst hwe
    exact kk _ _ _ _ _ _ _ (by omega) (by omega) hR hO hOD (lv_sub hl [2, 3, 4, 5, 6, 7] rfl)
  · have hf := qif_t hf c13
    obtain ⟨g14, hf⟩ := qgd hf
    have hwe := qso hf
    subst hwe
    subst g14
    refine lv_aload_n hx hb dL_law_1675 rfl (lv_at hl 5 rfl) ?_
    refine lv_iconst (v := 0) hx hb dL_law_1676 (by decide) ?_
    refine q_lald hC hO (e6 c13) dL_law_1677 ?_
    refine lv_iload hx hb dL_law_1678 (lv_at hl 0 rfl) ?_
    refine lv_i2l hx hb dL_law_1680 rfl ?_
    refine W.lcmp hx hb dL_law_1681 ?_
    rw [qcmp0]
    refine lv_if_eq (tgt := 1687) hx hb dL_law_1682 (by decide) (fun _ => ?_) (fun c_1 => absurd rfl c_1)
    refine lv_goto (tgt := 2120) hx hb dL_law_1687 (by decide) ?_
    exact kk _ _ _ _ _ _ _ (by omega) (by omega) hR hO hOD (lv_sub hl [2, 3, 4, 5, 6, 7] rfl)
def qs_28 (w : qMem) (a1 a2 a3 : Int32) : Option qMem :=
  qbdn (fL_run w) fun (k2 : Int32) (r1 : Int32) (w3 : qMem) =>
  qbd2 (fX6_run w3) fun (b7 : Int32) (w9 : qMem) =>
  qbd (fX6_thrown w9) fun (b10 : Int32) =>
  if b10 = k2 then
  if k2 = 0 then
    if r1 = b7 then
    some w9
    else none
  else
    some w9
  else none

set_option maxHeartbeats 4000000 in
set_option maxRecDepth 100000 in
theorem law_28 {p : Program} {l : Launch} {e : Env} {s : State} {m : MethodId} {args : Array Value} {below : List Frame} {meth : Method} {c0 : Code} {Q : State → Prop} {D : va_G} {G : Nat → ClassId} {ad : Nat → Nat} {b L o oD : Nat} {xs : Nat → Int32} {cl cd : ClassId} (hW : qLw p l s m args meth c0 D G ad b L o oD xs) {w wF : qMem} {i : Nat} (hi : i + 3 < L) {H : Heap} {locs : List Loc} {ls : Array Slot} {cc cs : Nat} {f0 : Nat → Int64} {g0 : Nat → UInt64} (hR : qRp D G ad s w H locs) (hO : qOut o cl .long (1, .inr (.inl f0)) (qAdr ad H.size) s H) (hOD : qOut oD cd .double (1, .inr (.inr (.inr (.inl g0)))) (qAdr ad H.size) s H) (hl : lv_has ls 9 (qlvs b o oD i ad)) (hf : qs_28 w (xs (i + 1)) (xs (i + 2)) (xs (i + 3)) = some wF) (hcc : cc + 320 ≤ room_1.cells) (hcs : cs + 2000 ≤ room_1.slots) (kk : ∀ (H : Heap) (locs : List Loc) (ls : Array Slot) (f0 : Nat → Int64) (g0 : Nat → UInt64) (cc1 cs1 : Nat), cc1 ≤ cc + 320 → cs1 ≤ cs + 2000 → qRp D G ad s wF H locs → qOut o cl .long (1, .inr (.inl f0)) (qAdr ad H.size) s H → qOut oD cd .double (1, .inr (.inr (.inr (.inl g0)))) (qAdr ad H.size) s H → lv_has ls 9 (qlvs b o oD i ad) → W p l e room_1 s m args below meth c0 H locs cc1 cs1 Q (F0 m 2120 ls [])) : W p l e room_1 s m args below meth c0 H locs cc cs Q (F0 m 1690 ls []) := by
  obtain ⟨hC, hst, hX, hbl, hbA, hL, ho, hoD, hne⟩ := hW
  have hx := hC.1
  have hb := hC.2.1
  have hl : lv_has ls 9 [(0, .ref b), (1, .ref (ad 228)), (2, .ref (ad 238)), (3, .ref o), (4, .ref oD), (5, .int (nI i))] := hl
  unfold qs_28 at hf
  refine lv_aload_n hx hb dL_law_1690 rfl (lv_at hl 1 rfl) ?_
  refine lv_aload_n hx hb dL_law_1691 rfl (lv_at hl 3 rfl) ?_
  obtain ⟨k2, r1, w3, hq4, hf⟩ := qbdn_s hf
  refine q_callL (As := [.ref (ad 228), .ref o]) (rest := []) hC hR (mL_run (qJ hC) hst hq4) hO ho qk_922 qk_923 qk_57 qkl_924 qhd_L_run ⟨Nat.le_of_ble_eq_true rfl, Nat.le_of_ble_eq_true rfl⟩ hl.1 rfl (Nat.le_of_ble_eq_true rfl) dL_law_1692 ⟨by show _ ≤ room_1.cells; omega, by show _ ≤ room_1.slots; omega⟩ (fun _ H locs hPA hz hk hO1 hR => ?_)
  have hOD := qOut_on2 hOD hne hz hk
  obtain ⟨f5, rfl, e6⟩ := hPA
  have hO := hO1
  refine lv_istore (lv' := [(6, .int k2), (0, .ref b), (1, .ref (ad 228)), (2, .ref (ad 238)), (3, .ref o), (4, .ref oD), (5, .int (nI i))]) hx hb dL_law_1695 hl (by decide) rfl (fun ls hl => ?_)
  refine lv_aload_n hx hb dL_law_1697 rfl (lv_at hl 3 rfl) ?_
  obtain ⟨b7, w9, hq8, hf⟩ := qbd2_s hf
  refine q_ki (As := []) (rest := []) hC hR (mX6_run (qJ hC) hq8) (by decide) (qsh_238 G ad _) rfl qk_1443 qk_1444 qk_1445 qk_64 qk_1446 qhd_X6_run ⟨Nat.le_of_ble_eq_true rfl, Nat.le_of_ble_eq_true rfl⟩ hl.1 rfl (Nat.le_of_ble_eq_true rfl) dL_law_1698 ⟨by show _ ≤ room_1.cells; omega, by show _ ≤ room_1.slots; omega⟩ (fun H locs hz hk hR => ?_)
  have hO := qX_on qOut_k hO hz hk
  have hOD := qX_on qOut_k hOD hz hk
  refine lv_istore (lv' := [(7, .int b7), (6, .int k2), (0, .ref b), (1, .ref (ad 228)), (2, .ref (ad 238)), (3, .ref o), (4, .ref oD), (5, .int (nI i))]) hx hb dL_law_1701 hl (by decide) rfl (fun ls hl => ?_)
  refine lv_aload_n hx hb dL_law_1703 rfl (lv_at hl 4 rfl) ?_
  obtain ⟨b10, hq11, hf⟩ := qbd_s hf
  refine q_ki (As := []) (rest := []) hC hR (mX6_thrown (qJ hC) hq11) (by decide) (qsh_238 G ad _) rfl qk_1189 qk_1190 qk_1191 qk_64 qk_1192 qhd_X6_thrown ⟨Nat.le_of_ble_eq_true rfl, Nat.le_of_ble_eq_true rfl⟩ hl.1 rfl (Nat.le_of_ble_eq_true rfl) dL_law_1704 ⟨by show _ ≤ room_1.cells; omega, by show _ ≤ room_1.slots; omega⟩ (fun H locs hz hk hR => ?_)
  have hO := qX_on qOut_k hO hz hk
  have hOD := qX_on qOut_k hOD hz hk
  refine lv_iload hx hb dL_law_1707 (lv_at hl 1 rfl) ?_
  obtain ⟨g12, hf⟩ := qgd hf
  refine lv_icmp_eq (tgt := 1714) hx hb dL_law_1709 (by decide) (fun _ => ?_) (fun c_1 => absurd g12 c_1)
  refine lv_iload hx hb dL_law_1714 (lv_at hl 1 rfl) ?_
  refine lv_if_ne (tgt := 1731) hx hb dL_law_1716 (by decide) (fun c13 => ?_) (fun c13 => ?_)
  · have hf := qif_f hf c13
    refine lv_goto (tgt := 2120) hx hb dL_law_1731 (by decide) ?_
    have hwe := qso hf
    subst hwe
    exact kk _ _ _ _ _ _ _ (by omega) (by omega) hR hO hOD (lv_sub hl [2, 3, 4, 5, 6, 7] rfl)
  · have hf := qif_t hf c13
    obtain ⟨g14, hf⟩ := qgd hf
    have hwe := qso hf
    subst hwe
    subst g14
    refine lv_aload_n hx hb dL_law_1719 rfl (lv_at hl 5 rfl) ?_
    refine lv_iconst (v := 0) hx hb dL_law_1720 (by decide) ?_
    refine q_lald hC hO (e6 c13) dL_law_1721 ?_
    refine lv_iload hx hb dL_law_1722 (lv_at hl 0 rfl) ?_
    refine lv_i2l hx hb dL_law_1724 rfl ?_
    refine W.lcmp hx hb dL_law_1725 ?_
    rw [qcmp0]
    refine lv_if_eq (tgt := 1731) hx hb dL_law_1726 (by decide) (fun _ => ?_) (fun c_1 => absurd rfl c_1)
    refine lv_goto (tgt := 2120) hx hb dL_law_1731 (by decide) ?_
    exact kk _ _ _ _ _ _ _ (by omega) (by omega) hR hO hOD (lv_sub hl [2, 3, 4, 5, 6, 7] rfl)
def qs_29 (w : qMem) (a1 a2 a3 : Int32) : Option qMem :=
  qbd (fX5_errorPosition w) fun (b1 : Int32) =>
  qbd2 (fX6_errorPosition w) fun (b3 : Int32) (w5 : qMem) =>
  if b1 = b3 then
  some w5
  else none

set_option maxHeartbeats 4000000 in
set_option maxRecDepth 100000 in
theorem law_29 {p : Program} {l : Launch} {e : Env} {s : State} {m : MethodId} {args : Array Value} {below : List Frame} {meth : Method} {c0 : Code} {Q : State → Prop} {D : va_G} {G : Nat → ClassId} {ad : Nat → Nat} {b L o oD : Nat} {xs : Nat → Int32} {cl cd : ClassId} (hW : qLw p l s m args meth c0 D G ad b L o oD xs) {w wF : qMem} {i : Nat} (hi : i + 3 < L) {H : Heap} {locs : List Loc} {ls : Array Slot} {cc cs : Nat} {f0 : Nat → Int64} {g0 : Nat → UInt64} (hR : qRp D G ad s w H locs) (hO : qOut o cl .long (1, .inr (.inl f0)) (qAdr ad H.size) s H) (hOD : qOut oD cd .double (1, .inr (.inr (.inr (.inl g0)))) (qAdr ad H.size) s H) (hl : lv_has ls 9 (qlvs b o oD i ad)) (hf : qs_29 w (xs (i + 1)) (xs (i + 2)) (xs (i + 3)) = some wF) (hcc : cc + 320 ≤ room_1.cells) (hcs : cs + 2000 ≤ room_1.slots) (kk : ∀ (H : Heap) (locs : List Loc) (ls : Array Slot) (f0 : Nat → Int64) (g0 : Nat → UInt64) (cc1 cs1 : Nat), cc1 ≤ cc + 320 → cs1 ≤ cs + 2000 → qRp D G ad s wF H locs → qOut o cl .long (1, .inr (.inl f0)) (qAdr ad H.size) s H → qOut oD cd .double (1, .inr (.inr (.inr (.inl g0)))) (qAdr ad H.size) s H → lv_has ls 9 (qlvs b o oD i ad) → W p l e room_1 s m args below meth c0 H locs cc1 cs1 Q (F0 m 2120 ls [])) : W p l e room_1 s m args below meth c0 H locs cc cs Q (F0 m 1734 ls []) := by
  obtain ⟨hC, hst, hX, hbl, hbA, hL, ho, hoD, hne⟩ := hW
  have hx := hC.1
  have hb := hC.2.1
  have hl : lv_has ls 9 [(0, .ref b), (1, .ref (ad 228)), (2, .ref (ad 238)), (3, .ref o), (4, .ref oD), (5, .int (nI i))] := hl
  unfold qs_29 at hf
  refine lv_aload_n hx hb dL_law_1734 rfl (lv_at hl 1 rfl) ?_
  obtain ⟨b1, hq2, hf⟩ := qbd_s hf
  refine q_ki (As := []) (rest := []) hC hR (mX5_errorPosition (qJ hC) hq2) (by decide) (qsh_228 G ad _) rfl qk_492 qk_493 qk_494 qk_58 qk_495 qhd_X5_errorPosition ⟨Nat.le_of_ble_eq_true rfl, Nat.le_of_ble_eq_true rfl⟩ hl.1 rfl (Nat.le_of_ble_eq_true rfl) dL_law_1735 ⟨by show _ ≤ room_1.cells; omega, by show _ ≤ room_1.slots; omega⟩ (fun H locs hz hk hR => ?_)
  have hO := qX_on qOut_k hO hz hk
  have hOD := qX_on qOut_k hOD hz hk
  refine lv_aload_n hx hb dL_law_1738 rfl (lv_at hl 2 rfl) ?_
  obtain ⟨b3, w5, hq4, hf⟩ := qbd2_s hf
  refine q_ki (As := []) (rest := [.int b1]) hC hR (mX6_errorPosition (qJ hC) hq4) (by decide) (qsh_238 G ad _) rfl qk_1759 qk_1760 qk_1761 qk_64 qk_1762 qhd_X6_errorPosition ⟨Nat.le_of_ble_eq_true rfl, Nat.le_of_ble_eq_true rfl⟩ hl.1 rfl (Nat.le_of_ble_eq_true rfl) dL_law_1739 ⟨by show _ ≤ room_1.cells; omega, by show _ ≤ room_1.slots; omega⟩ (fun H locs hz hk hR => ?_)
  have hO := qX_on qOut_k hO hz hk
  have hOD := qX_on qOut_k hOD hz hk
  obtain ⟨g6, hf⟩ := qgd hf
  refine lv_icmp_eq (tgt := 2120) hx hb dL_law_1742 (by decide) (fun _ => ?_) (fun c_1 => absurd g6 c_1)
  have hwe := qso hf
  subst hwe
  exact kk _ _ _ _ _ _ _ (by omega) (by omega) hR hO hOD (lv_sub hl [0, 1, 2, 3, 4, 5] rfl)
def qs_30 (w : qMem) (a1 a2 a3 : Int32) : Option qMem :=
  qbdn (fL_refusal w (if a1 = 0 then 0 else 1)) fun (k2 : Int32) (r1 : Int32) (w3 : qMem) =>
  qbd2 (fX6_refusal w3 (if a1 = 0 then 0 else 1)) fun (b7 : Int32) (w9 : qMem) =>
  qbd (fX6_thrown w9) fun (b10 : Int32) =>
  if b10 = k2 then
  if k2 = 0 then
    if r1 = b7 then
    some w9
    else none
  else
    some w9
  else none

set_option maxHeartbeats 4000000 in
set_option maxRecDepth 100000 in
theorem law_30 {p : Program} {l : Launch} {e : Env} {s : State} {m : MethodId} {args : Array Value} {below : List Frame} {meth : Method} {c0 : Code} {Q : State → Prop} {D : va_G} {G : Nat → ClassId} {ad : Nat → Nat} {b L o oD : Nat} {xs : Nat → Int32} {cl cd : ClassId} (hW : qLw p l s m args meth c0 D G ad b L o oD xs) {w wF : qMem} {i : Nat} (hi : i + 3 < L) {H : Heap} {locs : List Loc} {ls : Array Slot} {cc cs : Nat} {f0 : Nat → Int64} {g0 : Nat → UInt64} (hR : qRp D G ad s w H locs) (hO : qOut o cl .long (1, .inr (.inl f0)) (qAdr ad H.size) s H) (hOD : qOut oD cd .double (1, .inr (.inr (.inr (.inl g0)))) (qAdr ad H.size) s H) (hl : lv_has ls 9 (qlvs b o oD i ad)) (hf : qs_30 w (xs (i + 1)) (xs (i + 2)) (xs (i + 3)) = some wF) (hcc : cc + 320 ≤ room_1.cells) (hcs : cs + 2000 ≤ room_1.slots) (kk : ∀ (H : Heap) (locs : List Loc) (ls : Array Slot) (f0 : Nat → Int64) (g0 : Nat → UInt64) (cc1 cs1 : Nat), cc1 ≤ cc + 320 → cs1 ≤ cs + 2000 → qRp D G ad s wF H locs → qOut o cl .long (1, .inr (.inl f0)) (qAdr ad H.size) s H → qOut oD cd .double (1, .inr (.inr (.inr (.inl g0)))) (qAdr ad H.size) s H → lv_has ls 9 (qlvs b o oD i ad) → W p l e room_1 s m args below meth c0 H locs cc1 cs1 Q (F0 m 2120 ls [])) : W p l e room_1 s m args below meth c0 H locs cc cs Q (F0 m 1747 ls []) := by
  obtain ⟨hC, hst, hX, hbl, hbA, hL, ho, hoD, hne⟩ := hW
  have hx := hC.1
  have hb := hC.2.1
  have hl : lv_has ls 9 [(0, .ref b), (1, .ref (ad 228)), (2, .ref (ad 238)), (3, .ref o), (4, .ref oD), (5, .int (nI i))] := hl
  unfold qs_30 at hf
  refine lv_aload_n hx hb dL_law_1747 rfl (lv_at hl 1 rfl) ?_
  refine lv_aload_n hx hb dL_law_1748 rfl (lv_at hl 0 rfl) ?_
  refine lv_iload hx hb dL_law_1749 (lv_at hl 5 rfl) ?_
  refine lv_iconst (v := 1) hx hb dL_law_1751 (by decide) ?_
  refine lv_iadd hx hb dL_law_1752 ?_
  rw [show nI i + 1 = nI (i + 1) from nI_add i 1]
  refine va_sld hx hb hX hbl hbA hR.2 (vp_in_nI (by omega) (by omega)) dL_law_1753 ?_
  rw [nI_clamp (by omega)]
  refine q_bool hx hb dL_law_1754 dL_law_1757 dL_law_1758 dL_law_1761 ?_
  refine lv_aload_n hx hb dL_law_1762 rfl (lv_at hl 3 rfl) ?_
  obtain ⟨k2, r1, w3, hq4, hf⟩ := qbdn_s hf
  refine q_callL (As := [.ref (ad 228), .int (if (xs (i + 1)) = 0 then 0 else 1), .ref o]) (rest := []) hC hR (mL_refusal (qJ hC) hst hq4) hO ho qk_1041 qk_1042 qk_57 qkl_1043 qhd_L_refusal ⟨Nat.le_of_ble_eq_true rfl, Nat.le_of_ble_eq_true rfl⟩ hl.1 rfl (Nat.le_of_ble_eq_true rfl) dL_law_1763 ⟨by show _ ≤ room_1.cells; omega, by show _ ≤ room_1.slots; omega⟩ (fun _ H locs hPA hz hk hO1 hR => ?_)
  have hOD := qOut_on2 hOD hne hz hk
  obtain ⟨f5, rfl, e6⟩ := hPA
  have hO := hO1
  refine lv_istore (lv' := [(6, .int k2), (0, .ref b), (1, .ref (ad 228)), (2, .ref (ad 238)), (3, .ref o), (4, .ref oD), (5, .int (nI i))]) hx hb dL_law_1766 hl (by decide) rfl (fun ls hl => ?_)
  refine lv_aload_n hx hb dL_law_1768 rfl (lv_at hl 3 rfl) ?_
  refine lv_aload_n hx hb dL_law_1769 rfl (lv_at hl 1 rfl) ?_
  refine lv_iload hx hb dL_law_1770 (lv_at hl 6 rfl) ?_
  refine lv_iconst (v := 1) hx hb dL_law_1772 (by decide) ?_
  refine lv_iadd hx hb dL_law_1773 ?_
  rw [show nI i + 1 = nI (i + 1) from nI_add i 1]
  refine va_sld hx hb hX hbl hbA hR.2 (vp_in_nI (by omega) (by omega)) dL_law_1774 ?_
  rw [nI_clamp (by omega)]
  refine q_bool hx hb dL_law_1775 dL_law_1778 dL_law_1779 dL_law_1782 ?_
  obtain ⟨b7, w9, hq8, hf⟩ := qbd2_s hf
  refine q_ki (As := [.int (if (xs (i + 1)) = 0 then 0 else 1)]) (rest := []) hC hR (mX6_refusal (qJ hC) hq8) (by decide) (qsh_238 G ad _) rfl qk_1193 qk_1194 qk_1195 qk_64 qk_1196 qhd_X6_refusal ⟨Nat.le_of_ble_eq_true rfl, Nat.le_of_ble_eq_true rfl⟩ hl.1 rfl (Nat.le_of_ble_eq_true rfl) dL_law_1783 ⟨by show _ ≤ room_1.cells; omega, by show _ ≤ room_1.slots; omega⟩ (fun H locs hz hk hR => ?_)
  have hO := qX_on qOut_k hO hz hk
  have hOD := qX_on qOut_k hOD hz hk
  refine lv_istore (lv' := [(7, .int b7), (6, .int k2), (0, .ref b), (1, .ref (ad 228)), (2, .ref (ad 238)), (3, .ref o), (4, .ref oD), (5, .int (nI i))]) hx hb dL_law_1786 hl (by decide) rfl (fun ls hl => ?_)
  refine lv_aload_n hx hb dL_law_1788 rfl (lv_at hl 4 rfl) ?_
  obtain ⟨b10, hq11, hf⟩ := qbd_s hf
  refine q_ki (As := []) (rest := []) hC hR (mX6_thrown (qJ hC) hq11) (by decide) (qsh_238 G ad _) rfl qk_1189 qk_1190 qk_1191 qk_64 qk_1192 qhd_X6_thrown ⟨Nat.le_of_ble_eq_true rfl, Nat.le_of_ble_eq_true rfl⟩ hl.1 rfl (Nat.le_of_ble_eq_true rfl) dL_law_1789 ⟨by show _ ≤ room_1.cells; omega, by show _ ≤ room_1.slots; omega⟩ (fun H locs hz hk hR => ?_)
  have hO := qX_on qOut_k hO hz hk
  have hOD := qX_on qOut_k hOD hz hk
  refine lv_iload hx hb dL_law_1792 (lv_at hl 1 rfl) ?_
  obtain ⟨g12, hf⟩ := qgd hf
  refine lv_icmp_eq (tgt := 1799) hx hb dL_law_1794 (by decide) (fun _ => ?_) (fun c_1 => absurd g12 c_1)
  refine lv_iload hx hb dL_law_1799 (lv_at hl 1 rfl) ?_
  refine lv_if_ne (tgt := 1816) hx hb dL_law_1801 (by decide) (fun c13 => ?_) (fun c13 => ?_)
  · have hf := qif_f hf c13
    refine lv_goto (tgt := 2120) hx hb dL_law_1816 (by decide) ?_
    have hwe := qso hf
    subst hwe
    exact kk _ _ _ _ _ _ _ (by omega) (by omega) hR hO hOD (lv_sub hl [2, 3, 4, 5, 6, 7] rfl)
  · have hf := qif_t hf c13
    obtain ⟨g14, hf⟩ := qgd hf
    have hwe := qso hf
    subst hwe
    subst g14
    refine lv_aload_n hx hb dL_law_1804 rfl (lv_at hl 5 rfl) ?_
    refine lv_iconst (v := 0) hx hb dL_law_1805 (by decide) ?_
    refine q_lald hC hO (e6 c13) dL_law_1806 ?_
    refine lv_iload hx hb dL_law_1807 (lv_at hl 0 rfl) ?_
    refine lv_i2l hx hb dL_law_1809 rfl ?_
    refine W.lcmp hx hb dL_law_1810 ?_
    rw [qcmp0]
    refine lv_if_eq (tgt := 1816) hx hb dL_law_1811 (by decide) (fun _ => ?_) (fun c_1 => absurd rfl c_1)
    refine lv_goto (tgt := 2120) hx hb dL_law_1816 (by decide) ?_
    exact kk _ _ _ _ _ _ _ (by omega) (by omega) hR hO hOD (lv_sub hl [2, 3, 4, 5, 6, 7] rfl)
def qs_31 (w : qMem) (a1 a2 a3 : Int32) : Option qMem :=
  qbdn (fL_account w a1) fun (k2 : Int32) (r1 : Int32) (w3 : qMem) =>
  qbd2 (fX6_account w3 a1) fun (b7 : Int32) (w9 : qMem) =>
  qbd (fX6_thrown w9) fun (b10 : Int32) =>
  if b10 = k2 then
  if k2 = 0 then
    if r1 = b7 then
    some w9
    else none
  else
    some w9
  else none

set_option maxHeartbeats 4000000 in
set_option maxRecDepth 100000 in
theorem law_31 {p : Program} {l : Launch} {e : Env} {s : State} {m : MethodId} {args : Array Value} {below : List Frame} {meth : Method} {c0 : Code} {Q : State → Prop} {D : va_G} {G : Nat → ClassId} {ad : Nat → Nat} {b L o oD : Nat} {xs : Nat → Int32} {cl cd : ClassId} (hW : qLw p l s m args meth c0 D G ad b L o oD xs) {w wF : qMem} {i : Nat} (hi : i + 3 < L) {H : Heap} {locs : List Loc} {ls : Array Slot} {cc cs : Nat} {f0 : Nat → Int64} {g0 : Nat → UInt64} (hR : qRp D G ad s w H locs) (hO : qOut o cl .long (1, .inr (.inl f0)) (qAdr ad H.size) s H) (hOD : qOut oD cd .double (1, .inr (.inr (.inr (.inl g0)))) (qAdr ad H.size) s H) (hl : lv_has ls 9 (qlvs b o oD i ad)) (hf : qs_31 w (xs (i + 1)) (xs (i + 2)) (xs (i + 3)) = some wF) (hcc : cc + 320 ≤ room_1.cells) (hcs : cs + 2000 ≤ room_1.slots) (kk : ∀ (H : Heap) (locs : List Loc) (ls : Array Slot) (f0 : Nat → Int64) (g0 : Nat → UInt64) (cc1 cs1 : Nat), cc1 ≤ cc + 320 → cs1 ≤ cs + 2000 → qRp D G ad s wF H locs → qOut o cl .long (1, .inr (.inl f0)) (qAdr ad H.size) s H → qOut oD cd .double (1, .inr (.inr (.inr (.inl g0)))) (qAdr ad H.size) s H → lv_has ls 9 (qlvs b o oD i ad) → W p l e room_1 s m args below meth c0 H locs cc1 cs1 Q (F0 m 2120 ls [])) : W p l e room_1 s m args below meth c0 H locs cc cs Q (F0 m 1819 ls []) := by
  obtain ⟨hC, hst, hX, hbl, hbA, hL, ho, hoD, hne⟩ := hW
  have hx := hC.1
  have hb := hC.2.1
  have hl : lv_has ls 9 [(0, .ref b), (1, .ref (ad 228)), (2, .ref (ad 238)), (3, .ref o), (4, .ref oD), (5, .int (nI i))] := hl
  unfold qs_31 at hf
  refine lv_aload_n hx hb dL_law_1819 rfl (lv_at hl 1 rfl) ?_
  refine lv_aload_n hx hb dL_law_1820 rfl (lv_at hl 0 rfl) ?_
  refine lv_iload hx hb dL_law_1821 (lv_at hl 5 rfl) ?_
  refine lv_iconst (v := 1) hx hb dL_law_1823 (by decide) ?_
  refine lv_iadd hx hb dL_law_1824 ?_
  rw [show nI i + 1 = nI (i + 1) from nI_add i 1]
  refine va_sld hx hb hX hbl hbA hR.2 (vp_in_nI (by omega) (by omega)) dL_law_1825 ?_
  rw [nI_clamp (by omega)]
  refine lv_aload_n hx hb dL_law_1826 rfl (lv_at hl 3 rfl) ?_
  obtain ⟨k2, r1, w3, hq4, hf⟩ := qbdn_s hf
  refine q_callL (As := [.ref (ad 228), .int (xs (i + 1)), .ref o]) (rest := []) hC hR (mL_account (qJ hC) hst hq4) hO ho qk_1049 qk_1050 qk_57 qkl_1051 qhd_L_account ⟨Nat.le_of_ble_eq_true rfl, Nat.le_of_ble_eq_true rfl⟩ hl.1 rfl (Nat.le_of_ble_eq_true rfl) dL_law_1827 ⟨by show _ ≤ room_1.cells; omega, by show _ ≤ room_1.slots; omega⟩ (fun _ H locs hPA hz hk hO1 hR => ?_)
  have hOD := qOut_on2 hOD hne hz hk
  obtain ⟨f5, rfl, e6⟩ := hPA
  have hO := hO1
  refine lv_istore (lv' := [(6, .int k2), (0, .ref b), (1, .ref (ad 228)), (2, .ref (ad 238)), (3, .ref o), (4, .ref oD), (5, .int (nI i))]) hx hb dL_law_1830 hl (by decide) rfl (fun ls hl => ?_)
  refine lv_aload_n hx hb dL_law_1832 rfl (lv_at hl 3 rfl) ?_
  refine lv_aload_n hx hb dL_law_1833 rfl (lv_at hl 1 rfl) ?_
  refine lv_iload hx hb dL_law_1834 (lv_at hl 6 rfl) ?_
  refine lv_iconst (v := 1) hx hb dL_law_1836 (by decide) ?_
  refine lv_iadd hx hb dL_law_1837 ?_
  rw [show nI i + 1 = nI (i + 1) from nI_add i 1]
  refine va_sld hx hb hX hbl hbA hR.2 (vp_in_nI (by omega) (by omega)) dL_law_1838 ?_
  rw [nI_clamp (by omega)]
  obtain ⟨b7, w9, hq8, hf⟩ := qbd2_s hf
  refine q_ki (As := [.int (xs (i + 1))]) (rest := []) hC hR (mX6_account (qJ hC) hq8) (by decide) (qsh_238 G ad _) rfl qk_1763 qk_1764 qk_1765 qk_64 qk_1766 qhd_X6_account ⟨Nat.le_of_ble_eq_true rfl, Nat.le_of_ble_eq_true rfl⟩ hl.1 rfl (Nat.le_of_ble_eq_true rfl) dL_law_1839 ⟨by show _ ≤ room_1.cells; omega, by show _ ≤ room_1.slots; omega⟩ (fun H locs hz hk hR => ?_)
  have hO := qX_on qOut_k hO hz hk
  have hOD := qX_on qOut_k hOD hz hk
  refine lv_istore (lv' := [(7, .int b7), (6, .int k2), (0, .ref b), (1, .ref (ad 228)), (2, .ref (ad 238)), (3, .ref o), (4, .ref oD), (5, .int (nI i))]) hx hb dL_law_1842 hl (by decide) rfl (fun ls hl => ?_)
  refine lv_aload_n hx hb dL_law_1844 rfl (lv_at hl 4 rfl) ?_
  obtain ⟨b10, hq11, hf⟩ := qbd_s hf
  refine q_ki (As := []) (rest := []) hC hR (mX6_thrown (qJ hC) hq11) (by decide) (qsh_238 G ad _) rfl qk_1189 qk_1190 qk_1191 qk_64 qk_1192 qhd_X6_thrown ⟨Nat.le_of_ble_eq_true rfl, Nat.le_of_ble_eq_true rfl⟩ hl.1 rfl (Nat.le_of_ble_eq_true rfl) dL_law_1845 ⟨by show _ ≤ room_1.cells; omega, by show _ ≤ room_1.slots; omega⟩ (fun H locs hz hk hR => ?_)
  have hO := qX_on qOut_k hO hz hk
  have hOD := qX_on qOut_k hOD hz hk
  refine lv_iload hx hb dL_law_1848 (lv_at hl 1 rfl) ?_
  obtain ⟨g12, hf⟩ := qgd hf
  refine lv_icmp_eq (tgt := 1855) hx hb dL_law_1850 (by decide) (fun _ => ?_) (fun c_1 => absurd g12 c_1)
  refine lv_iload hx hb dL_law_1855 (lv_at hl 1 rfl) ?_
  refine lv_if_ne (tgt := 1872) hx hb dL_law_1857 (by decide) (fun c13 => ?_) (fun c13 => ?_)
  · have hf := qif_f hf c13
    refine lv_goto (tgt := 2120) hx hb dL_law_1872 (by decide) ?_
    have hwe := qso hf
    subst hwe
    exact kk _ _ _ _ _ _ _ (by omega) (by omega) hR hO hOD (lv_sub hl [2, 3, 4, 5, 6, 7] rfl)
  · have hf := qif_t hf c13
    obtain ⟨g14, hf⟩ := qgd hf
    have hwe := qso hf
    subst hwe
    subst g14
    refine lv_aload_n hx hb dL_law_1860 rfl (lv_at hl 5 rfl) ?_
    refine lv_iconst (v := 0) hx hb dL_law_1861 (by decide) ?_
    refine q_lald hC hO (e6 c13) dL_law_1862 ?_
    refine lv_iload hx hb dL_law_1863 (lv_at hl 0 rfl) ?_
    refine lv_i2l hx hb dL_law_1865 rfl ?_
    refine W.lcmp hx hb dL_law_1866 ?_
    rw [qcmp0]
    refine lv_if_eq (tgt := 1872) hx hb dL_law_1867 (by decide) (fun _ => ?_) (fun c_1 => absurd rfl c_1)
    refine lv_goto (tgt := 2120) hx hb dL_law_1872 (by decide) ?_
    exact kk _ _ _ _ _ _ _ (by omega) (by omega) hR hO hOD (lv_sub hl [2, 3, 4, 5, 6, 7] rfl)
def qs_32 (w : qMem) (a1 a2 a3 : Int32) : Option qMem :=
  qbd2 (fX5_isWell w) fun (b1 : Int32) (w3 : qMem) =>
  qbd2 (fX6_isWell w3) fun (b4 : Int32) (w6 : qMem) =>
  if b1 = b4 then
  some w6
  else none

set_option maxHeartbeats 4000000 in
set_option maxRecDepth 100000 in
theorem law_32 {p : Program} {l : Launch} {e : Env} {s : State} {m : MethodId} {args : Array Value} {below : List Frame} {meth : Method} {c0 : Code} {Q : State → Prop} {D : va_G} {G : Nat → ClassId} {ad : Nat → Nat} {b L o oD : Nat} {xs : Nat → Int32} {cl cd : ClassId} (hW : qLw p l s m args meth c0 D G ad b L o oD xs) {w wF : qMem} {i : Nat} (hi : i + 3 < L) {H : Heap} {locs : List Loc} {ls : Array Slot} {cc cs : Nat} {f0 : Nat → Int64} {g0 : Nat → UInt64} (hR : qRp D G ad s w H locs) (hO : qOut o cl .long (1, .inr (.inl f0)) (qAdr ad H.size) s H) (hOD : qOut oD cd .double (1, .inr (.inr (.inr (.inl g0)))) (qAdr ad H.size) s H) (hl : lv_has ls 9 (qlvs b o oD i ad)) (hf : qs_32 w (xs (i + 1)) (xs (i + 2)) (xs (i + 3)) = some wF) (hcc : cc + 320 ≤ room_1.cells) (hcs : cs + 2000 ≤ room_1.slots) (kk : ∀ (H : Heap) (locs : List Loc) (ls : Array Slot) (f0 : Nat → Int64) (g0 : Nat → UInt64) (cc1 cs1 : Nat), cc1 ≤ cc + 320 → cs1 ≤ cs + 2000 → qRp D G ad s wF H locs → qOut o cl .long (1, .inr (.inl f0)) (qAdr ad H.size) s H → qOut oD cd .double (1, .inr (.inr (.inr (.inl g0)))) (qAdr ad H.size) s H → lv_has ls 9 (qlvs b o oD i ad) → W p l e room_1 s m args below meth c0 H locs cc1 cs1 Q (F0 m 2120 ls [])) : W p l e room_1 s m args below meth c0 H locs cc cs Q (F0 m 1875 ls []) := by
  obtain ⟨hC, hst, hX, hbl, hbA, hL, ho, hoD, hne⟩ := hW
  have hx := hC.1
  have hb := hC.2.1
  have hl : lv_has ls 9 [(0, .ref b), (1, .ref (ad 228)), (2, .ref (ad 238)), (3, .ref o), (4, .ref oD), (5, .int (nI i))] := hl
  unfold qs_32 at hf
  refine lv_aload_n hx hb dL_law_1875 rfl (lv_at hl 1 rfl) ?_
  obtain ⟨b1, w3, hq2, hf⟩ := qbd2_s hf
  refine q_ki (As := []) (rest := []) hC hR (mX5_isWell (qJ hC) hq2) (by decide) (qsh_228 G ad _) rfl qk_496 qk_497 qk_498 qk_58 qk_499 qhd_X5_isWell ⟨Nat.le_of_ble_eq_true rfl, Nat.le_of_ble_eq_true rfl⟩ hl.1 rfl (Nat.le_of_ble_eq_true rfl) dL_law_1876 ⟨by show _ ≤ room_1.cells; omega, by show _ ≤ room_1.slots; omega⟩ (fun H locs hz hk hR => ?_)
  have hO := qX_on qOut_k hO hz hk
  have hOD := qX_on qOut_k hOD hz hk
  refine lv_aload_n hx hb dL_law_1879 rfl (lv_at hl 2 rfl) ?_
  obtain ⟨b4, w6, hq5, hf⟩ := qbd2_s hf
  refine q_ki (As := []) (rest := [.int b1]) hC hR (mX6_isWell (qJ hC) hq5) (by decide) (qsh_238 G ad _) rfl qk_1771 qk_1772 qk_1773 qk_64 qk_1774 qhd_X6_isWell ⟨Nat.le_of_ble_eq_true rfl, Nat.le_of_ble_eq_true rfl⟩ hl.1 rfl (Nat.le_of_ble_eq_true rfl) dL_law_1880 ⟨by show _ ≤ room_1.cells; omega, by show _ ≤ room_1.slots; omega⟩ (fun H locs hz hk hR => ?_)
  have hO := qX_on qOut_k hO hz hk
  have hOD := qX_on qOut_k hOD hz hk
  obtain ⟨g7, hf⟩ := qgd hf
  refine lv_icmp_eq (tgt := 2120) hx hb dL_law_1883 (by decide) (fun _ => ?_) (fun c_1 => absurd g7 c_1)
  have hwe := qso hf
  subst hwe
  exact kk _ _ _ _ _ _ _ (by omega) (by omega) hR hO hOD (lv_sub hl [0, 1, 2, 3, 4, 5] rfl)
def qs_33 (w : qMem) (a1 a2 a3 : Int32) : Option qMem :=
  qbdn (fL_meanGrade w) fun (k2 : Int32) (r1 : UInt64) (w3 : qMem) =>
  qbd2 (fX6_meanGrade w3) fun (b7 : UInt64) (w9 : qMem) =>
  qbd (fX6_thrown w9) fun (b10 : Int32) =>
  if b10 = k2 then
  if k2 = 0 then
    if Op.cmpValue (FP.dcmp r1 b7) .l = 0 then
    some w9
    else none
  else
    some w9
  else none

set_option maxHeartbeats 4000000 in
set_option maxRecDepth 100000 in
theorem law_33 {p : Program} {l : Launch} {e : Env} {s : State} {m : MethodId} {args : Array Value} {below : List Frame} {meth : Method} {c0 : Code} {Q : State → Prop} {D : va_G} {G : Nat → ClassId} {ad : Nat → Nat} {b L o oD : Nat} {xs : Nat → Int32} {cl cd : ClassId} (hW : qLw p l s m args meth c0 D G ad b L o oD xs) {w wF : qMem} {i : Nat} (hi : i + 3 < L) {H : Heap} {locs : List Loc} {ls : Array Slot} {cc cs : Nat} {f0 : Nat → Int64} {g0 : Nat → UInt64} (hR : qRp D G ad s w H locs) (hO : qOut o cl .long (1, .inr (.inl f0)) (qAdr ad H.size) s H) (hOD : qOut oD cd .double (1, .inr (.inr (.inr (.inl g0)))) (qAdr ad H.size) s H) (hl : lv_has ls 9 (qlvs b o oD i ad)) (hf : qs_33 w (xs (i + 1)) (xs (i + 2)) (xs (i + 3)) = some wF) (hcc : cc + 320 ≤ room_1.cells) (hcs : cs + 2000 ≤ room_1.slots) (kk : ∀ (H : Heap) (locs : List Loc) (ls : Array Slot) (f0 : Nat → Int64) (g0 : Nat → UInt64) (cc1 cs1 : Nat), cc1 ≤ cc + 320 → cs1 ≤ cs + 2000 → qRp D G ad s wF H locs → qOut o cl .long (1, .inr (.inl f0)) (qAdr ad H.size) s H → qOut oD cd .double (1, .inr (.inr (.inr (.inl g0)))) (qAdr ad H.size) s H → lv_has ls 9 (qlvs b o oD i ad) → W p l e room_1 s m args below meth c0 H locs cc1 cs1 Q (F0 m 2120 ls [])) : W p l e room_1 s m args below meth c0 H locs cc cs Q (F0 m 1888 ls []) := by
  obtain ⟨hC, hst, hX, hbl, hbA, hL, ho, hoD, hne⟩ := hW
  have hx := hC.1
  have hb := hC.2.1
  have hl : lv_has ls 9 [(0, .ref b), (1, .ref (ad 228)), (2, .ref (ad 238)), (3, .ref o), (4, .ref oD), (5, .int (nI i))] := hl
  unfold qs_33 at hf
  refine lv_aload_n hx hb dL_law_1888 rfl (lv_at hl 1 rfl) ?_
  refine lv_aload hx hb dL_law_1889 (lv_at hl 4 rfl) ?_
  obtain ⟨k2, r1, w3, hq4, hf⟩ := qbdn_s hf
  refine q_callL (As := [.ref (ad 228), .ref oD]) (rest := []) hC hR (mL_meanGrade (qJ hC) hst hq4) hOD hoD qk_1062 qk_1063 qk_57 qkl_1064 qhd_L_meanGrade ⟨Nat.le_of_ble_eq_true rfl, Nat.le_of_ble_eq_true rfl⟩ hl.1 rfl (Nat.le_of_ble_eq_true rfl) dL_law_1891 ⟨by show _ ≤ room_1.cells; omega, by show _ ≤ room_1.slots; omega⟩ (fun _ H locs hPA hz hk hOD1 hR => ?_)
  have hO := qOut_on2 hO (Ne.symm hne) hz hk
  obtain ⟨f5, rfl, e6⟩ := hPA
  have hOD := hOD1
  refine lv_istore (lv' := [(6, .int k2), (0, .ref b), (1, .ref (ad 228)), (2, .ref (ad 238)), (3, .ref o), (4, .ref oD), (5, .int (nI i))]) hx hb dL_law_1894 hl (by decide) rfl (fun ls hl => ?_)
  refine lv_aload_n hx hb dL_law_1896 rfl (lv_at hl 3 rfl) ?_
  obtain ⟨b7, w9, hq8, hf⟩ := qbd2_s hf
  refine q_kd (As := []) (rest := []) hC hR (mX6_meanGrade (qJ hC) hq8) (by decide) (qsh_238 G ad _) rfl qk_1775 qk_1776 qk_1777 qk_64 qk_1778 qhd_X6_meanGrade ⟨Nat.le_of_ble_eq_true rfl, Nat.le_of_ble_eq_true rfl⟩ hl.1 rfl (Nat.le_of_ble_eq_true rfl) dL_law_1897 ⟨by show _ ≤ room_1.cells; omega, by show _ ≤ room_1.slots; omega⟩ (fun H locs hz hk hR => ?_)
  have hO := qX_on qOut_k hO hz hk
  have hOD := qX_on qOut_k hOD hz hk
  refine lv_dstore (lv' := [(7, .double b7), (6, .int k2), (0, .ref b), (1, .ref (ad 228)), (2, .ref (ad 238)), (3, .ref o), (4, .ref oD), (5, .int (nI i))]) hx hb dL_law_1900 hl (by decide) rfl (fun ls hl => ?_)
  refine lv_aload_n hx hb dL_law_1902 rfl (lv_at hl 4 rfl) ?_
  obtain ⟨b10, hq11, hf⟩ := qbd_s hf
  refine q_ki (As := []) (rest := []) hC hR (mX6_thrown (qJ hC) hq11) (by decide) (qsh_238 G ad _) rfl qk_1189 qk_1190 qk_1191 qk_64 qk_1192 qhd_X6_thrown ⟨Nat.le_of_ble_eq_true rfl, Nat.le_of_ble_eq_true rfl⟩ hl.1 rfl (Nat.le_of_ble_eq_true rfl) dL_law_1903 ⟨by show _ ≤ room_1.cells; omega, by show _ ≤ room_1.slots; omega⟩ (fun H locs hz hk hR => ?_)
  have hO := qX_on qOut_k hO hz hk
  have hOD := qX_on qOut_k hOD hz hk
  refine lv_iload hx hb dL_law_1906 (lv_at hl 1 rfl) ?_
  obtain ⟨g12, hf⟩ := qgd hf
  refine lv_icmp_eq (tgt := 1913) hx hb dL_law_1908 (by decide) (fun _ => ?_) (fun c_1 => absurd g12 c_1)
  refine lv_iload hx hb dL_law_1913 (lv_at hl 1 rfl) ?_
  refine lv_if_ne (tgt := 1950) hx hb dL_law_1915 (by decide) (fun c13 => ?_) (fun c13 => ?_)
  · have hf := qif_f hf c13
    refine lv_goto (tgt := 2120) hx hb dL_law_1950 (by decide) ?_
    have hwe := qso hf
    subst hwe
    exact kk _ _ _ _ _ _ _ (by omega) (by omega) hR hO hOD (lv_sub hl [2, 3, 4, 5, 6, 7] rfl)
  · have hf := qif_t hf c13
    obtain ⟨g14, hf⟩ := qgd hf
    have hwe := qso hf
    subst hwe
    refine lv_aload hx hb dL_law_1918 (lv_at hl 6 rfl) ?_
    refine lv_iconst (v := 0) hx hb dL_law_1920 (by decide) ?_
    refine q_dald hC hOD (e6 c13) dL_law_1921 ?_
    refine lv_dload hx hb dL_law_1922 (lv_at hl 0 rfl) ?_
    refine lv_dcmp hx hb dL_law_1924 ?_
    refine lv_if_eq (tgt := 1950) hx hb dL_law_1925 (by decide) (fun _ => ?_) (fun c_1 => absurd g14 c_1)
    refine lv_goto (tgt := 2120) hx hb dL_law_1950 (by decide) ?_
    exact kk _ _ _ _ _ _ _ (by omega) (by omega) hR hO hOD (lv_sub hl [2, 3, 4, 5, 6, 7] rfl)
def qs_34 (w : qMem) (a1 a2 a3 : Int32) : Option qMem :=
  qbdn (fL_brokenShare w) fun (k2 : Int32) (r1 : UInt32) (w3 : qMem) =>
  if qn64 (FP.f2d r1) = true then
  qbd2 (fX6_brokenShare w3) fun (b8 : UInt32) (w10 : qMem) =>
  qbd (fX6_thrown w10) fun (b11 : Int32) =>
  if b11 = k2 then
  if k2 = 0 then
    if qn64 (FP.f2d b8) = true then
    if Op.cmpValue (FP.dcmp (FP.f2d r1) (FP.f2d b8)) .l = 0 then
    some w10
    else none
    else none
  else
    some w10
  else none
  else none

set_option maxHeartbeats 4000000 in
set_option maxRecDepth 100000 in
theorem law_34 {p : Program} {l : Launch} {e : Env} {s : State} {m : MethodId} {args : Array Value} {below : List Frame} {meth : Method} {c0 : Code} {Q : State → Prop} {D : va_G} {G : Nat → ClassId} {ad : Nat → Nat} {b L o oD : Nat} {xs : Nat → Int32} {cl cd : ClassId} (hW : qLw p l s m args meth c0 D G ad b L o oD xs) {w wF : qMem} {i : Nat} (hi : i + 3 < L) {H : Heap} {locs : List Loc} {ls : Array Slot} {cc cs : Nat} {f0 : Nat → Int64} {g0 : Nat → UInt64} (hR : qRp D G ad s w H locs) (hO : qOut o cl .long (1, .inr (.inl f0)) (qAdr ad H.size) s H) (hOD : qOut oD cd .double (1, .inr (.inr (.inr (.inl g0)))) (qAdr ad H.size) s H) (hl : lv_has ls 9 (qlvs b o oD i ad)) (hf : qs_34 w (xs (i + 1)) (xs (i + 2)) (xs (i + 3)) = some wF) (hcc : cc + 320 ≤ room_1.cells) (hcs : cs + 2000 ≤ room_1.slots) (kk : ∀ (H : Heap) (locs : List Loc) (ls : Array Slot) (f0 : Nat → Int64) (g0 : Nat → UInt64) (cc1 cs1 : Nat), cc1 ≤ cc + 320 → cs1 ≤ cs + 2000 → qRp D G ad s wF H locs → qOut o cl .long (1, .inr (.inl f0)) (qAdr ad H.size) s H → qOut oD cd .double (1, .inr (.inr (.inr (.inl g0)))) (qAdr ad H.size) s H → lv_has ls 9 (qlvs b o oD i ad) → W p l e room_1 s m args below meth c0 H locs cc1 cs1 Q (F0 m 2120 ls [])) : W p l e room_1 s m args below meth c0 H locs cc cs Q (F0 m 1953 ls []) := by
  obtain ⟨hC, hst, hX, hbl, hbA, hL, ho, hoD, hne⟩ := hW
  have hx := hC.1
  have hb := hC.2.1
  have hl : lv_has ls 9 [(0, .ref b), (1, .ref (ad 228)), (2, .ref (ad 238)), (3, .ref o), (4, .ref oD), (5, .int (nI i))] := hl
  unfold qs_34 at hf
  refine lv_aload_n hx hb dL_law_1953 rfl (lv_at hl 1 rfl) ?_
  refine lv_aload hx hb dL_law_1954 (lv_at hl 4 rfl) ?_
  obtain ⟨k2, r1, w3, hq4, hf⟩ := qbdn_s hf
  obtain ⟨g5, hf⟩ := qgd hf
  refine q_callL (As := [.ref (ad 228), .ref oD]) (rest := []) hC hR (mL_brokenShare (qJ hC) hst hq4 g5) hOD hoD qk_1090 qk_1091 qk_57 qkl_1092 qhd_L_brokenShare ⟨Nat.le_of_ble_eq_true rfl, Nat.le_of_ble_eq_true rfl⟩ hl.1 rfl (Nat.le_of_ble_eq_true rfl) dL_law_1956 ⟨by show _ ≤ room_1.cells; omega, by show _ ≤ room_1.slots; omega⟩ (fun _ H locs hPA hz hk hOD1 hR => ?_)
  have hO := qOut_on2 hO (Ne.symm hne) hz hk
  obtain ⟨f6, rfl, e7⟩ := hPA
  have hOD := hOD1
  refine lv_istore (lv' := [(6, .int k2), (0, .ref b), (1, .ref (ad 228)), (2, .ref (ad 238)), (3, .ref o), (4, .ref oD), (5, .int (nI i))]) hx hb dL_law_1959 hl (by decide) rfl (fun ls hl => ?_)
  refine lv_aload_n hx hb dL_law_1961 rfl (lv_at hl 3 rfl) ?_
  obtain ⟨b8, w10, hq9, hf⟩ := qbd2_s hf
  refine q_kf (As := []) (rest := []) hC hR (mX6_brokenShare (qJ hC) hq9) (by decide) (qsh_238 G ad _) rfl qk_1779 qk_1780 qk_1781 qk_64 qk_1782 qhd_X6_brokenShare ⟨Nat.le_of_ble_eq_true rfl, Nat.le_of_ble_eq_true rfl⟩ hl.1 rfl (Nat.le_of_ble_eq_true rfl) dL_law_1962 ⟨by show _ ≤ room_1.cells; omega, by show _ ≤ room_1.slots; omega⟩ (fun H locs hz hk hR => ?_)
  have hO := qX_on qOut_k hO hz hk
  have hOD := qX_on qOut_k hOD hz hk
  refine lv_fstore (lv' := [(7, .float b8), (6, .int k2), (0, .ref b), (1, .ref (ad 228)), (2, .ref (ad 238)), (3, .ref o), (4, .ref oD), (5, .int (nI i))]) hx hb dL_law_1965 hl (by decide) rfl (fun ls hl => ?_)
  refine lv_aload_n hx hb dL_law_1967 rfl (lv_at hl 4 rfl) ?_
  obtain ⟨b11, hq12, hf⟩ := qbd_s hf
  refine q_ki (As := []) (rest := []) hC hR (mX6_thrown (qJ hC) hq12) (by decide) (qsh_238 G ad _) rfl qk_1189 qk_1190 qk_1191 qk_64 qk_1192 qhd_X6_thrown ⟨Nat.le_of_ble_eq_true rfl, Nat.le_of_ble_eq_true rfl⟩ hl.1 rfl (Nat.le_of_ble_eq_true rfl) dL_law_1968 ⟨by show _ ≤ room_1.cells; omega, by show _ ≤ room_1.slots; omega⟩ (fun H locs hz hk hR => ?_)
  have hO := qX_on qOut_k hO hz hk
  have hOD := qX_on qOut_k hOD hz hk
  refine lv_iload hx hb dL_law_1971 (lv_at hl 1 rfl) ?_
  obtain ⟨g13, hf⟩ := qgd hf
  refine lv_icmp_eq (tgt := 1978) hx hb dL_law_1973 (by decide) (fun _ => ?_) (fun c_1 => absurd g13 c_1)
  refine lv_iload hx hb dL_law_1978 (lv_at hl 1 rfl) ?_
  refine lv_if_ne (tgt := 2016) hx hb dL_law_1980 (by decide) (fun c14 => ?_) (fun c14 => ?_)
  · have hf := qif_f hf c14
    refine lv_goto (tgt := 2120) hx hb dL_law_2016 (by decide) ?_
    have hwe := qso hf
    subst hwe
    exact kk _ _ _ _ _ _ _ (by omega) (by omega) hR hO hOD (lv_sub hl [2, 3, 4, 5, 6, 7] rfl)
  · have hf := qif_t hf c14
    obtain ⟨g15, hf⟩ := qgd hf
    obtain ⟨g16, hf⟩ := qgd hf
    have hwe := qso hf
    subst hwe
    refine lv_aload hx hb dL_law_1983 (lv_at hl 6 rfl) ?_
    refine lv_iconst (v := 0) hx hb dL_law_1985 (by decide) ?_
    refine q_dald hC hOD (e7 c14) dL_law_1986 ?_
    refine lv_fload hx hb dL_law_1987 (lv_at hl 0 rfl) ?_
    refine lv_f2d hx hb dL_law_1989 (qn64_ok g15) ?_
    refine lv_dcmp hx hb dL_law_1990 ?_
    refine lv_if_eq (tgt := 2016) hx hb dL_law_1991 (by decide) (fun _ => ?_) (fun c_1 => absurd g16 c_1)
    refine lv_goto (tgt := 2120) hx hb dL_law_2016 (by decide) ?_
    exact kk _ _ _ _ _ _ _ (by omega) (by omega) hR hO hOD (lv_sub hl [2, 3, 4, 5, 6, 7] rfl)
def qs_35 (w : qMem) (a1 a2 a3 : Int32) : Option qMem :=
  qbdn (fL_undo w) fun (k2 : Int32) (r1 : Int32) (w3 : qMem) =>
  qbd2 (fX6_undo w3) fun (b7 : Int32) (w9 : qMem) =>
  qbd (fX6_thrown w9) fun (b10 : Int32) =>
  if b10 = k2 then
  if k2 = 0 then
    if r1 = b7 then
    some w9
    else none
  else
    some w9
  else none

set_option maxHeartbeats 4000000 in
set_option maxRecDepth 100000 in
theorem law_35 {p : Program} {l : Launch} {e : Env} {s : State} {m : MethodId} {args : Array Value} {below : List Frame} {meth : Method} {c0 : Code} {Q : State → Prop} {D : va_G} {G : Nat → ClassId} {ad : Nat → Nat} {b L o oD : Nat} {xs : Nat → Int32} {cl cd : ClassId} (hW : qLw p l s m args meth c0 D G ad b L o oD xs) {w wF : qMem} {i : Nat} (hi : i + 3 < L) {H : Heap} {locs : List Loc} {ls : Array Slot} {cc cs : Nat} {f0 : Nat → Int64} {g0 : Nat → UInt64} (hR : qRp D G ad s w H locs) (hO : qOut o cl .long (1, .inr (.inl f0)) (qAdr ad H.size) s H) (hOD : qOut oD cd .double (1, .inr (.inr (.inr (.inl g0)))) (qAdr ad H.size) s H) (hl : lv_has ls 9 (qlvs b o oD i ad)) (hf : qs_35 w (xs (i + 1)) (xs (i + 2)) (xs (i + 3)) = some wF) (hcc : cc + 320 ≤ room_1.cells) (hcs : cs + 2000 ≤ room_1.slots) (kk : ∀ (H : Heap) (locs : List Loc) (ls : Array Slot) (f0 : Nat → Int64) (g0 : Nat → UInt64) (cc1 cs1 : Nat), cc1 ≤ cc + 320 → cs1 ≤ cs + 2000 → qRp D G ad s wF H locs → qOut o cl .long (1, .inr (.inl f0)) (qAdr ad H.size) s H → qOut oD cd .double (1, .inr (.inr (.inr (.inl g0)))) (qAdr ad H.size) s H → lv_has ls 9 (qlvs b o oD i ad) → W p l e room_1 s m args below meth c0 H locs cc1 cs1 Q (F0 m 2120 ls [])) : W p l e room_1 s m args below meth c0 H locs cc cs Q (F0 m 2019 ls []) := by
  obtain ⟨hC, hst, hX, hbl, hbA, hL, ho, hoD, hne⟩ := hW
  have hx := hC.1
  have hb := hC.2.1
  have hl : lv_has ls 9 [(0, .ref b), (1, .ref (ad 228)), (2, .ref (ad 238)), (3, .ref o), (4, .ref oD), (5, .int (nI i))] := hl
  unfold qs_35 at hf
  refine lv_aload_n hx hb dL_law_2019 rfl (lv_at hl 1 rfl) ?_
  refine lv_aload_n hx hb dL_law_2020 rfl (lv_at hl 3 rfl) ?_
  obtain ⟨k2, r1, w3, hq4, hf⟩ := qbdn_s hf
  refine q_callL (As := [.ref (ad 228), .ref o]) (rest := []) hC hR (mL_undo (qJ hC) hst hq4) hO ho qk_1098 qk_1099 qk_57 qkl_1100 qhd_L_undo ⟨Nat.le_of_ble_eq_true rfl, Nat.le_of_ble_eq_true rfl⟩ hl.1 rfl (Nat.le_of_ble_eq_true rfl) dL_law_2021 ⟨by show _ ≤ room_1.cells; omega, by show _ ≤ room_1.slots; omega⟩ (fun _ H locs hPA hz hk hO1 hR => ?_)
  have hOD := qOut_on2 hOD hne hz hk
  obtain ⟨f5, rfl, e6⟩ := hPA
  have hO := hO1
  refine lv_istore (lv' := [(6, .int k2), (0, .ref b), (1, .ref (ad 228)), (2, .ref (ad 238)), (3, .ref o), (4, .ref oD), (5, .int (nI i))]) hx hb dL_law_2024 hl (by decide) rfl (fun ls hl => ?_)
  refine lv_aload_n hx hb dL_law_2026 rfl (lv_at hl 3 rfl) ?_
  obtain ⟨b7, w9, hq8, hf⟩ := qbd2_s hf
  refine q_ki (As := []) (rest := []) hC hR (mX6_undo (qJ hC) hq8) (by decide) (qsh_238 G ad _) rfl qk_1783 qk_1784 qk_1785 qk_64 qk_1786 qhd_X6_undo ⟨Nat.le_of_ble_eq_true rfl, Nat.le_of_ble_eq_true rfl⟩ hl.1 rfl (Nat.le_of_ble_eq_true rfl) dL_law_2027 ⟨by show _ ≤ room_1.cells; omega, by show _ ≤ room_1.slots; omega⟩ (fun H locs hz hk hR => ?_)
  have hO := qX_on qOut_k hO hz hk
  have hOD := qX_on qOut_k hOD hz hk
  refine lv_istore (lv' := [(7, .int b7), (6, .int k2), (0, .ref b), (1, .ref (ad 228)), (2, .ref (ad 238)), (3, .ref o), (4, .ref oD), (5, .int (nI i))]) hx hb dL_law_2030 hl (by decide) rfl (fun ls hl => ?_)
  refine lv_aload_n hx hb dL_law_2032 rfl (lv_at hl 4 rfl) ?_
  obtain ⟨b10, hq11, hf⟩ := qbd_s hf
  refine q_ki (As := []) (rest := []) hC hR (mX6_thrown (qJ hC) hq11) (by decide) (qsh_238 G ad _) rfl qk_1189 qk_1190 qk_1191 qk_64 qk_1192 qhd_X6_thrown ⟨Nat.le_of_ble_eq_true rfl, Nat.le_of_ble_eq_true rfl⟩ hl.1 rfl (Nat.le_of_ble_eq_true rfl) dL_law_2033 ⟨by show _ ≤ room_1.cells; omega, by show _ ≤ room_1.slots; omega⟩ (fun H locs hz hk hR => ?_)
  have hO := qX_on qOut_k hO hz hk
  have hOD := qX_on qOut_k hOD hz hk
  refine lv_iload hx hb dL_law_2036 (lv_at hl 1 rfl) ?_
  obtain ⟨g12, hf⟩ := qgd hf
  refine lv_icmp_eq (tgt := 2043) hx hb dL_law_2038 (by decide) (fun _ => ?_) (fun c_1 => absurd g12 c_1)
  refine lv_iload hx hb dL_law_2043 (lv_at hl 1 rfl) ?_
  refine lv_if_ne (tgt := 2060) hx hb dL_law_2045 (by decide) (fun c13 => ?_) (fun c13 => ?_)
  · have hf := qif_f hf c13
    refine lv_goto (tgt := 2120) hx hb dL_law_2060 (by decide) ?_
    have hwe := qso hf
    subst hwe
    exact kk _ _ _ _ _ _ _ (by omega) (by omega) hR hO hOD (lv_sub hl [2, 3, 4, 5, 6, 7] rfl)
  · have hf := qif_t hf c13
    obtain ⟨g14, hf⟩ := qgd hf
    have hwe := qso hf
    subst hwe
    subst g14
    refine lv_aload_n hx hb dL_law_2048 rfl (lv_at hl 5 rfl) ?_
    refine lv_iconst (v := 0) hx hb dL_law_2049 (by decide) ?_
    refine q_lald hC hO (e6 c13) dL_law_2050 ?_
    refine lv_iload hx hb dL_law_2051 (lv_at hl 0 rfl) ?_
    refine lv_i2l hx hb dL_law_2053 rfl ?_
    refine W.lcmp hx hb dL_law_2054 ?_
    rw [qcmp0]
    refine lv_if_eq (tgt := 2060) hx hb dL_law_2055 (by decide) (fun _ => ?_) (fun c_1 => absurd rfl c_1)
    refine lv_goto (tgt := 2120) hx hb dL_law_2060 (by decide) ?_
    exact kk _ _ _ _ _ _ _ (by omega) (by omega) hR hO hOD (lv_sub hl [2, 3, 4, 5, 6, 7] rfl)
def qs_36 (w : qMem) (a1 a2 a3 : Int32) : Option qMem :=
  qbd2 (fX5_save w) fun (b1 : Int32) (w3 : qMem) =>
  qbd2 (fX6_save w3) fun (b4 : Int32) (w6 : qMem) =>
  if b1 = b4 then
  some w6
  else none

set_option maxHeartbeats 4000000 in
set_option maxRecDepth 100000 in
theorem law_36 {p : Program} {l : Launch} {e : Env} {s : State} {m : MethodId} {args : Array Value} {below : List Frame} {meth : Method} {c0 : Code} {Q : State → Prop} {D : va_G} {G : Nat → ClassId} {ad : Nat → Nat} {b L o oD : Nat} {xs : Nat → Int32} {cl cd : ClassId} (hW : qLw p l s m args meth c0 D G ad b L o oD xs) {w wF : qMem} {i : Nat} (hi : i + 3 < L) {H : Heap} {locs : List Loc} {ls : Array Slot} {cc cs : Nat} {f0 : Nat → Int64} {g0 : Nat → UInt64} (hR : qRp D G ad s w H locs) (hO : qOut o cl .long (1, .inr (.inl f0)) (qAdr ad H.size) s H) (hOD : qOut oD cd .double (1, .inr (.inr (.inr (.inl g0)))) (qAdr ad H.size) s H) (hl : lv_has ls 9 (qlvs b o oD i ad)) (hf : qs_36 w (xs (i + 1)) (xs (i + 2)) (xs (i + 3)) = some wF) (hcc : cc + 320 ≤ room_1.cells) (hcs : cs + 2000 ≤ room_1.slots) (kk : ∀ (H : Heap) (locs : List Loc) (ls : Array Slot) (f0 : Nat → Int64) (g0 : Nat → UInt64) (cc1 cs1 : Nat), cc1 ≤ cc + 320 → cs1 ≤ cs + 2000 → qRp D G ad s wF H locs → qOut o cl .long (1, .inr (.inl f0)) (qAdr ad H.size) s H → qOut oD cd .double (1, .inr (.inr (.inr (.inl g0)))) (qAdr ad H.size) s H → lv_has ls 9 (qlvs b o oD i ad) → W p l e room_1 s m args below meth c0 H locs cc1 cs1 Q (F0 m 2120 ls [])) : W p l e room_1 s m args below meth c0 H locs cc cs Q (F0 m 2063 ls []) := by
  obtain ⟨hC, hst, hX, hbl, hbA, hL, ho, hoD, hne⟩ := hW
  have hx := hC.1
  have hb := hC.2.1
  have hl : lv_has ls 9 [(0, .ref b), (1, .ref (ad 228)), (2, .ref (ad 238)), (3, .ref o), (4, .ref oD), (5, .int (nI i))] := hl
  unfold qs_36 at hf
  refine lv_aload_n hx hb dL_law_2063 rfl (lv_at hl 1 rfl) ?_
  obtain ⟨b1, w3, hq2, hf⟩ := qbd2_s hf
  refine q_ki (As := []) (rest := []) hC hR (mX5_save (qJ hC) hq2) (by decide) (qsh_228 G ad _) rfl qk_538 qk_539 qk_540 qk_58 qk_541 qhd_X5_save ⟨Nat.le_of_ble_eq_true rfl, Nat.le_of_ble_eq_true rfl⟩ hl.1 rfl (Nat.le_of_ble_eq_true rfl) dL_law_2064 ⟨by show _ ≤ room_1.cells; omega, by show _ ≤ room_1.slots; omega⟩ (fun H locs hz hk hR => ?_)
  have hO := qX_on qOut_k hO hz hk
  have hOD := qX_on qOut_k hOD hz hk
  refine lv_aload_n hx hb dL_law_2067 rfl (lv_at hl 2 rfl) ?_
  obtain ⟨b4, w6, hq5, hf⟩ := qbd2_s hf
  refine q_ki (As := []) (rest := [.int b1]) hC hR (mX6_save (qJ hC) hq5) (by decide) (qsh_238 G ad _) rfl qk_1787 qk_1788 qk_1789 qk_64 qk_1790 qhd_X6_save ⟨Nat.le_of_ble_eq_true rfl, Nat.le_of_ble_eq_true rfl⟩ hl.1 rfl (Nat.le_of_ble_eq_true rfl) dL_law_2068 ⟨by show _ ≤ room_1.cells; omega, by show _ ≤ room_1.slots; omega⟩ (fun H locs hz hk hR => ?_)
  have hO := qX_on qOut_k hO hz hk
  have hOD := qX_on qOut_k hOD hz hk
  obtain ⟨g7, hf⟩ := qgd hf
  refine lv_icmp_eq (tgt := 2120) hx hb dL_law_2071 (by decide) (fun _ => ?_) (fun c_1 => absurd g7 c_1)
  have hwe := qso hf
  subst hwe
  exact kk _ _ _ _ _ _ _ (by omega) (by omega) hR hO hOD (lv_sub hl [0, 1, 2, 3, 4, 5] rfl)
def qs_37 (w : qMem) (a1 a2 a3 : Int32) : Option qMem :=
  qbdn (fL_restore w) fun (k2 : Int32) (r1 : Int32) (w3 : qMem) =>
  qbd2 (fX6_restore w3) fun (b7 : Int32) (w9 : qMem) =>
  qbd (fX6_thrown w9) fun (b10 : Int32) =>
  if b10 = k2 then
  if k2 = 0 then
    if r1 = b7 then
    some w9
    else none
  else
    some w9
  else none

set_option maxHeartbeats 4000000 in
set_option maxRecDepth 100000 in
theorem law_37 {p : Program} {l : Launch} {e : Env} {s : State} {m : MethodId} {args : Array Value} {below : List Frame} {meth : Method} {c0 : Code} {Q : State → Prop} {D : va_G} {G : Nat → ClassId} {ad : Nat → Nat} {b L o oD : Nat} {xs : Nat → Int32} {cl cd : ClassId} (hW : qLw p l s m args meth c0 D G ad b L o oD xs) {w wF : qMem} {i : Nat} (hi : i + 3 < L) {H : Heap} {locs : List Loc} {ls : Array Slot} {cc cs : Nat} {f0 : Nat → Int64} {g0 : Nat → UInt64} (hR : qRp D G ad s w H locs) (hO : qOut o cl .long (1, .inr (.inl f0)) (qAdr ad H.size) s H) (hOD : qOut oD cd .double (1, .inr (.inr (.inr (.inl g0)))) (qAdr ad H.size) s H) (hl : lv_has ls 9 (qlvs b o oD i ad)) (hf : qs_37 w (xs (i + 1)) (xs (i + 2)) (xs (i + 3)) = some wF) (hcc : cc + 320 ≤ room_1.cells) (hcs : cs + 2000 ≤ room_1.slots) (kk : ∀ (H : Heap) (locs : List Loc) (ls : Array Slot) (f0 : Nat → Int64) (g0 : Nat → UInt64) (cc1 cs1 : Nat), cc1 ≤ cc + 320 → cs1 ≤ cs + 2000 → qRp D G ad s wF H locs → qOut o cl .long (1, .inr (.inl f0)) (qAdr ad H.size) s H → qOut oD cd .double (1, .inr (.inr (.inr (.inl g0)))) (qAdr ad H.size) s H → lv_has ls 9 (qlvs b o oD i ad) → W p l e room_1 s m args below meth c0 H locs cc1 cs1 Q (F0 m 2120 ls [])) : W p l e room_1 s m args below meth c0 H locs cc cs Q (F0 m 2076 ls []) := by
  obtain ⟨hC, hst, hX, hbl, hbA, hL, ho, hoD, hne⟩ := hW
  have hx := hC.1
  have hb := hC.2.1
  have hl : lv_has ls 9 [(0, .ref b), (1, .ref (ad 228)), (2, .ref (ad 238)), (3, .ref o), (4, .ref oD), (5, .int (nI i))] := hl
  unfold qs_37 at hf
  refine lv_aload_n hx hb dL_law_2076 rfl (lv_at hl 1 rfl) ?_
  refine lv_aload_n hx hb dL_law_2077 rfl (lv_at hl 3 rfl) ?_
  obtain ⟨k2, r1, w3, hq4, hf⟩ := qbdn_s hf
  refine q_callL (As := [.ref (ad 228), .ref o]) (rest := []) hC hR (mL_restore (qJ hC) hst hq4) hO ho qk_1111 qk_1112 qk_57 qkl_1113 qhd_L_restore ⟨Nat.le_of_ble_eq_true rfl, Nat.le_of_ble_eq_true rfl⟩ hl.1 rfl (Nat.le_of_ble_eq_true rfl) dL_law_2078 ⟨by show _ ≤ room_1.cells; omega, by show _ ≤ room_1.slots; omega⟩ (fun _ H locs hPA hz hk hO1 hR => ?_)
  have hOD := qOut_on2 hOD hne hz hk
  obtain ⟨f5, rfl, e6⟩ := hPA
  have hO := hO1
  refine lv_istore (lv' := [(6, .int k2), (0, .ref b), (1, .ref (ad 228)), (2, .ref (ad 238)), (3, .ref o), (4, .ref oD), (5, .int (nI i))]) hx hb dL_law_2081 hl (by decide) rfl (fun ls hl => ?_)
  refine lv_aload_n hx hb dL_law_2083 rfl (lv_at hl 3 rfl) ?_
  obtain ⟨b7, w9, hq8, hf⟩ := qbd2_s hf
  refine q_ki (As := []) (rest := []) hC hR (mX6_restore (qJ hC) hq8) (by decide) (qsh_238 G ad _) rfl qk_1791 qk_1792 qk_1793 qk_64 qk_1794 qhd_X6_restore ⟨Nat.le_of_ble_eq_true rfl, Nat.le_of_ble_eq_true rfl⟩ hl.1 rfl (Nat.le_of_ble_eq_true rfl) dL_law_2084 ⟨by show _ ≤ room_1.cells; omega, by show _ ≤ room_1.slots; omega⟩ (fun H locs hz hk hR => ?_)
  have hO := qX_on qOut_k hO hz hk
  have hOD := qX_on qOut_k hOD hz hk
  refine lv_istore (lv' := [(7, .int b7), (6, .int k2), (0, .ref b), (1, .ref (ad 228)), (2, .ref (ad 238)), (3, .ref o), (4, .ref oD), (5, .int (nI i))]) hx hb dL_law_2087 hl (by decide) rfl (fun ls hl => ?_)
  refine lv_aload_n hx hb dL_law_2089 rfl (lv_at hl 4 rfl) ?_
  obtain ⟨b10, hq11, hf⟩ := qbd_s hf
  refine q_ki (As := []) (rest := []) hC hR (mX6_thrown (qJ hC) hq11) (by decide) (qsh_238 G ad _) rfl qk_1189 qk_1190 qk_1191 qk_64 qk_1192 qhd_X6_thrown ⟨Nat.le_of_ble_eq_true rfl, Nat.le_of_ble_eq_true rfl⟩ hl.1 rfl (Nat.le_of_ble_eq_true rfl) dL_law_2090 ⟨by show _ ≤ room_1.cells; omega, by show _ ≤ room_1.slots; omega⟩ (fun H locs hz hk hR => ?_)
  have hO := qX_on qOut_k hO hz hk
  have hOD := qX_on qOut_k hOD hz hk
  refine lv_iload hx hb dL_law_2093 (lv_at hl 1 rfl) ?_
  obtain ⟨g12, hf⟩ := qgd hf
  refine lv_icmp_eq (tgt := 2100) hx hb dL_law_2095 (by decide) (fun _ => ?_) (fun c_1 => absurd g12 c_1)
  refine lv_iload hx hb dL_law_2100 (lv_at hl 1 rfl) ?_
  refine lv_if_ne (tgt := 2117) hx hb dL_law_2102 (by decide) (fun c13 => ?_) (fun c13 => ?_)
  · have hf := qif_f hf c13
    refine lv_goto (tgt := 2120) hx hb dL_law_2117 (by decide) ?_
    have hwe := qso hf
    subst hwe
    exact kk _ _ _ _ _ _ _ (by omega) (by omega) hR hO hOD (lv_sub hl [2, 3, 4, 5, 6, 7] rfl)
  · have hf := qif_t hf c13
    obtain ⟨g14, hf⟩ := qgd hf
    have hwe := qso hf
    subst hwe
    subst g14
    refine lv_aload_n hx hb dL_law_2105 rfl (lv_at hl 5 rfl) ?_
    refine lv_iconst (v := 0) hx hb dL_law_2106 (by decide) ?_
    refine q_lald hC hO (e6 c13) dL_law_2107 ?_
    refine lv_iload hx hb dL_law_2108 (lv_at hl 0 rfl) ?_
    refine lv_i2l hx hb dL_law_2110 rfl ?_
    refine W.lcmp hx hb dL_law_2111 ?_
    rw [qcmp0]
    refine lv_if_eq (tgt := 2117) hx hb dL_law_2112 (by decide) (fun _ => ?_) (fun c_1 => absurd rfl c_1)
    refine lv_goto (tgt := 2120) hx hb dL_law_2117 (by decide) ?_
    exact kk _ _ _ _ _ _ _ (by omega) (by omega) hR hO hOD (lv_sub hl [2, 3, 4, 5, 6, 7] rfl)
