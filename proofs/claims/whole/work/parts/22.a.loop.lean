def qstep (w : qMem) (op a1 a2 a3 : Int32) : Option qMem :=
  if op = 0 then qs_0 w a1 a2 a3 else
  if op = 1 then qs_1 w a1 a2 a3 else
  if op = 2 then qs_2 w a1 a2 a3 else
  if op = 3 then qs_3 w a1 a2 a3 else
  if op = 4 then qs_4 w a1 a2 a3 else
  if op = 5 then qs_5 w a1 a2 a3 else
  if op = 6 then qs_6 w a1 a2 a3 else
  if op = 7 then qs_7 w a1 a2 a3 else
  if op = 8 then qs_8 w a1 a2 a3 else
  if op = 9 then qs_9 w a1 a2 a3 else
  if op = 10 then qs_10 w a1 a2 a3 else
  if op = 11 then qs_11 w a1 a2 a3 else
  if op = 12 then qs_12 w a1 a2 a3 else
  if op = 13 then qs_13 w a1 a2 a3 else
  if op = 14 then qs_14 w a1 a2 a3 else
  if op = 15 then qs_15 w a1 a2 a3 else
  if op = 16 then qs_16 w a1 a2 a3 else
  if op = 17 then qs_17 w a1 a2 a3 else
  if op = 18 then qs_18 w a1 a2 a3 else
  if op = 19 then qs_19 w a1 a2 a3 else
  if op = 20 then qs_20 w a1 a2 a3 else
  if op = 21 then qs_21 w a1 a2 a3 else
  if op = 22 then qs_22 w a1 a2 a3 else
  if op = 23 then qs_23 w a1 a2 a3 else
  if op = 24 then qs_24 w a1 a2 a3 else
  if op = 25 then qs_25 w a1 a2 a3 else
  if op = 26 then qs_26 w a1 a2 a3 else
  if op = 27 then qs_27 w a1 a2 a3 else
  if op = 28 then qs_28 w a1 a2 a3 else
  if op = 29 then qs_29 w a1 a2 a3 else
  if op = 30 then qs_30 w a1 a2 a3 else
  if op = 31 then qs_31 w a1 a2 a3 else
  if op = 32 then qs_32 w a1 a2 a3 else
  if op = 33 then qs_33 w a1 a2 a3 else
  if op = 34 then qs_34 w a1 a2 a3 else
  if op = 35 then qs_35 w a1 a2 a3 else
  if op = 36 then qs_36 w a1 a2 a3 else
  if op = 37 then qs_37 w a1 a2 a3 else
  some w
def qrun (xs : Nat → Int32) : Nat → Nat → qMem → Prop
  | 0, _, _ => True
  | n + 1, i, w => ∃ w1 : qMem, qstep w (xs i &&& 63) (xs (i + 1)) (xs (i + 2)) (xs (i + 3)) = some w1 ∧ qrun xs n (i + 4) w1
theorem qlen4 {L i : Nat} (hL : L ≤ 2048) (hi : i ≤ 2048) : nI L - 4 < nI i ↔ L < i + 4 := by
  rw [Int32.lt_iff_toInt_lt, show (4 : Int32) = nI 4 from rfl, pk_sub_toInt (by omega) (by omega), nI_toInt (by omega)]
  omega
set_option maxHeartbeats 8000000 in
set_option maxRecDepth 100000 in
theorem law_loop {p : Program} {l : Launch} {e : Env} {s : State} {m : MethodId} {below : List Frame} {meth : Method} {c0 : Code} {D : va_G} {G : Nat → ClassId} {ad : Nat → Nat} {b L o oD : Nat} {xs : Nat → Int32} {cl cd : ClassId} (hW : qLw p l s m #[Value.ref b] meth c0 D G ad b L o oD xs) (hr : meth.sig.returnType = ret) (had : ∀ k : Nat, k < 247 → s.heap.size ≤ ad k) :
    ∀ (n i : Nat) (w : qMem) (H : Heap) (locs : List Loc) (ls : Array Slot) (f0 : Nat → Int64) (g0 : Nat → UInt64) (cc cs : Nat), i + 4 * n ≤ L → L < i + 4 * n + 4 → cc + 320 * n ≤ room_1.cells → cs + 2000 * n ≤ room_1.slots → qrun xs n i w → qRp D G ad s w H locs → qOut o cl .long (1, .inr (.inl f0)) (qAdr ad H.size) s H → qOut oD cd .double (1, .inr (.inr (.inr (.inl g0)))) (qAdr ad H.size) s H → lv_has ls 9 (qlvs b o oD i ad) → W p l e room_1 s m #[Value.ref b] below meth c0 H locs cc cs (lw_Z below #[Value.ref b] s) (F0 m 28 ls []) := by
  obtain ⟨hC, hst, hX, hbl, hbA, hL, ho, hoD, hne⟩ := id hW
  have hx := hC.1
  have hb := hC.2.1
  intro n
  induction n with
  | zero =>
    intro i w H locs ls f0 g0 cc cs h1 h2 h3 h4 hrun hR hO hOD hl
    have hl : lv_has ls 9 [(0, .ref b), (1, .ref (ad 228)), (2, .ref (ad 238)), (3, .ref o), (4, .ref oD), (5, .int (nI i))] := hl
    refine lv_iload hx hb dL_law_28 (lv_at hl 5 rfl) ?_
    refine lv_aload_n hx hb dL_law_30 rfl (lv_at hl 0 rfl) ?_
    refine va_slen hx hb hX hbl hbA hR.2 dL_law_31 ?_
    refine lv_iconst (v := 4) hx hb dL_law_32 (by decide) ?_
    refine lv_isub hx hb dL_law_33 ?_
    refine lv_icmp_gt (tgt := 2126) hx hb dL_law_34 (by decide) (fun _ => ?_) (fun c_1 => absurd ((qlen4 hL (by omega)).mpr (by omega)) c_1)
    refine lv_iconst (v := 1) hx hb dL_law_2126 (by decide) ?_
    refine va_forget (fun q hq => (hR.2.2.2 q hq).elim (fun ⟨k, hk, e⟩ => by rw [e]; exact had k hk) (fun h => h)) ?_
    refine W.widen (k := room_1.cells) (n := room_1.slots) (by omega) (by omega) ?_
    have hend := lw_ret (p := p) (l := l) (e := e) (s := s) (m := m) (below := below) (meth := meth) (c := c0) (b := b) (d0 := s.drawn) (pc := 2127) (H := H) (ls := ls) (Drawn.sameBut.refl s.drawn lw_cs) hx hb hr hC.2.2.2.2.2.1 dL_law_2127
    exact hend
  | succ n ih =>
    intro i w H locs ls f0 g0 cc cs h1 h2 h3 h4 hrun hR hO hOD hl
    obtain ⟨wF, hf, hrun⟩ := hrun
    have hl : lv_has ls 9 [(0, .ref b), (1, .ref (ad 228)), (2, .ref (ad 238)), (3, .ref o), (4, .ref oD), (5, .int (nI i))] := hl
    have kk : ∀ (H : Heap) (locs : List Loc) (ls : Array Slot) (f0 : Nat → Int64) (g0 : Nat → UInt64) (cc1 cs1 : Nat), cc1 ≤ cc + 320 → cs1 ≤ cs + 2000 → qRp D G ad s wF H locs → qOut o cl .long (1, .inr (.inl f0)) (qAdr ad H.size) s H → qOut oD cd .double (1, .inr (.inr (.inr (.inl g0)))) (qAdr ad H.size) s H → lv_has ls 9 (qlvs b o oD i ad) → W p l e room_1 s m #[Value.ref b] below meth c0 H locs cc1 cs1 (lw_Z below #[Value.ref b] s) (F0 m 2120 ls []) := by
      intro H locs ls f0 g0 cc1 cs1 g1 g2 hR hO hOD hl
      have hl : lv_has ls 9 [(0, .ref b), (1, .ref (ad 228)), (2, .ref (ad 238)), (3, .ref o), (4, .ref oD), (5, .int (nI i))] := hl
      refine lv_iinc (v := nI (i + 4)) (lv' := [(5, .int (nI (i + 4))), (0, .ref b), (1, .ref (ad 228)), (2, .ref (ad 238)), (3, .ref o), (4, .ref oD)]) hx hb dL_law_2120 hl (k := 5) rfl (nI_add i 4) (by decide) rfl (fun ls hl => ?_)
      refine lv_goto (tgt := 28) hx hb dL_law_2123 (by decide) ?_
      exact ih (i + 4) wF H locs ls f0 g0 cc1 cs1 (by omega) (by omega) (by omega) (by omega) hrun hR hO hOD (lv_sub hl [1, 2, 3, 4, 5, 0] rfl)
    refine lv_iload hx hb dL_law_28 (lv_at hl 5 rfl) ?_
    refine lv_aload_n hx hb dL_law_30 rfl (lv_at hl 0 rfl) ?_
    refine va_slen hx hb hX hbl hbA hR.2 dL_law_31 ?_
    refine lv_iconst (v := 4) hx hb dL_law_32 (by decide) ?_
    refine lv_isub hx hb dL_law_33 ?_
    refine lv_icmp_gt (tgt := 2126) hx hb dL_law_34 (by decide) (fun c_1 => absurd ((qlen4 hL (by omega)).mp c_1) (by omega)) (fun _ => ?_)
    refine lv_aload_n hx hb dL_law_37 rfl (lv_at hl 0 rfl) ?_
    refine lv_iload hx hb dL_law_38 (lv_at hl 5 rfl) ?_
    refine va_sld hx hb hX hbl hbA hR.2 (vp_in_nI (by omega) (by omega)) dL_law_40 ?_
    rw [nI_clamp (by omega)]
    refine lv_bipush (v := 63) hx hb dL_law_41 (by decide) ?_
    refine lv_iand hx hb dL_law_43 ?_
    generalize xs i &&& 63 = op at hf ⊢
    unfold qstep at hf
    by_cases c_0 : op = 0
    · have hf := qif_t hf c_0
      refine lv_tableIn (off := 168) (tgt := 212) hx hb dL_law_44 (by rw [c_0]; decide) (by rw [c_0]; decide) (by rw [c_0]; decide) (by decide) ?_
      exact law_0 hW (by omega) hR hO hOD hl hf (by omega) (by omega) kk
    have hf := qif_f hf c_0
    by_cases c_1 : op = 1
    · have hf := qif_t hf c_1
      refine lv_tableIn (off := 236) (tgt := 280) hx hb dL_law_44 (by rw [c_1]; decide) (by rw [c_1]; decide) (by rw [c_1]; decide) (by decide) ?_
      exact law_1 hW (by omega) hR hO hOD hl hf (by omega) (by omega) kk
    have hf := qif_f hf c_1
    by_cases c_2 : op = 2
    · have hf := qif_t hf c_2
      refine lv_tableIn (off := 304) (tgt := 348) hx hb dL_law_44 (by rw [c_2]; decide) (by rw [c_2]; decide) (by rw [c_2]; decide) (by decide) ?_
      exact law_2 hW (by omega) hR hO hOD hl hf (by omega) (by omega) kk
    have hf := qif_f hf c_2
    by_cases c_3 : op = 3
    · have hf := qif_t hf c_3
      refine lv_tableIn (off := 372) (tgt := 416) hx hb dL_law_44 (by rw [c_3]; decide) (by rw [c_3]; decide) (by rw [c_3]; decide) (by decide) ?_
      exact law_3 hW (by omega) hR hO hOD hl hf (by omega) (by omega) kk
    have hf := qif_f hf c_3
    by_cases c_4 : op = 4
    · have hf := qif_t hf c_4
      refine lv_tableIn (off := 428) (tgt := 472) hx hb dL_law_44 (by rw [c_4]; decide) (by rw [c_4]; decide) (by rw [c_4]; decide) (by decide) ?_
      exact law_4 hW (by omega) hR hO hOD hl hf (by omega) (by omega) kk
    have hf := qif_f hf c_4
    by_cases c_5 : op = 5
    · have hf := qif_t hf c_5
      refine lv_tableIn (off := 496) (tgt := 540) hx hb dL_law_44 (by rw [c_5]; decide) (by rw [c_5]; decide) (by rw [c_5]; decide) (by decide) ?_
      exact law_5 hW (by omega) hR hO hOD hl hf (by omega) (by omega) kk
    have hf := qif_f hf c_5
    by_cases c_6 : op = 6
    · have hf := qif_t hf c_6
      refine lv_tableIn (off := 552) (tgt := 596) hx hb dL_law_44 (by rw [c_6]; decide) (by rw [c_6]; decide) (by rw [c_6]; decide) (by decide) ?_
      exact law_6 hW (by omega) hR hO hOD hl hf (by omega) (by omega) kk
    have hf := qif_f hf c_6
    by_cases c_7 : op = 7
    · have hf := qif_t hf c_7
      refine lv_tableIn (off := 565) (tgt := 609) hx hb dL_law_44 (by rw [c_7]; decide) (by rw [c_7]; decide) (by rw [c_7]; decide) (by decide) ?_
      exact law_7 hW (by omega) hR hO hOD hl hf (by omega) (by omega) kk
    have hf := qif_f hf c_7
    by_cases c_8 : op = 8
    · have hf := qif_t hf c_8
      refine lv_tableIn (off := 621) (tgt := 665) hx hb dL_law_44 (by rw [c_8]; decide) (by rw [c_8]; decide) (by rw [c_8]; decide) (by decide) ?_
      exact law_8 hW (by omega) hR hO hOD hl hf (by omega) (by omega) kk
    have hf := qif_f hf c_8
    by_cases c_9 : op = 9
    · have hf := qif_t hf c_9
      refine lv_tableIn (off := 665) (tgt := 709) hx hb dL_law_44 (by rw [c_9]; decide) (by rw [c_9]; decide) (by rw [c_9]; decide) (by decide) ?_
      exact law_9 hW (by omega) hR hO hOD hl hf (by omega) (by omega) kk
    have hf := qif_f hf c_9
    by_cases c_10 : op = 10
    · have hf := qif_t hf c_10
      refine lv_tableIn (off := 678) (tgt := 722) hx hb dL_law_44 (by rw [c_10]; decide) (by rw [c_10]; decide) (by rw [c_10]; decide) (by decide) ?_
      exact law_10 hW (by omega) hR hO hOD hl hf (by omega) (by omega) kk
    have hf := qif_f hf c_10
    by_cases c_11 : op = 11
    · have hf := qif_t hf c_11
      refine lv_tableIn (off := 746) (tgt := 790) hx hb dL_law_44 (by rw [c_11]; decide) (by rw [c_11]; decide) (by rw [c_11]; decide) (by decide) ?_
      exact law_11 hW (by omega) hR hO hOD hl hf (by omega) (by omega) kk
    have hf := qif_f hf c_11
    by_cases c_12 : op = 12
    · have hf := qif_t hf c_12
      refine lv_tableIn (off := 802) (tgt := 846) hx hb dL_law_44 (by rw [c_12]; decide) (by rw [c_12]; decide) (by rw [c_12]; decide) (by decide) ?_
      exact law_12 hW (by omega) hR hO hOD hl hf (by omega) (by omega) kk
    have hf := qif_f hf c_12
    by_cases c_13 : op = 13
    · have hf := qif_t hf c_13
      refine lv_tableIn (off := 898) (tgt := 942) hx hb dL_law_44 (by rw [c_13]; decide) (by rw [c_13]; decide) (by rw [c_13]; decide) (by decide) ?_
      exact law_13 hW (by omega) hR hO hOD hl hf (by omega) (by omega) kk
    have hf := qif_f hf c_13
    by_cases c_14 : op = 14
    · have hf := qif_t hf c_14
      refine lv_tableIn (off := 954) (tgt := 998) hx hb dL_law_44 (by rw [c_14]; decide) (by rw [c_14]; decide) (by rw [c_14]; decide) (by decide) ?_
      exact law_14 hW (by omega) hR hO hOD hl hf (by omega) (by omega) kk
    have hf := qif_f hf c_14
    by_cases c_15 : op = 15
    · have hf := qif_t hf c_15
      refine lv_tableIn (off := 1038) (tgt := 1082) hx hb dL_law_44 (by rw [c_15]; decide) (by rw [c_15]; decide) (by rw [c_15]; decide) (by decide) ?_
      exact law_15 hW (by omega) hR hO hOD hl hf (by omega) (by omega) kk
    have hf := qif_f hf c_15
    by_cases c_16 : op = 16
    · have hf := qif_t hf c_16
      refine lv_tableIn (off := 1051) (tgt := 1095) hx hb dL_law_44 (by rw [c_16]; decide) (by rw [c_16]; decide) (by rw [c_16]; decide) (by decide) ?_
      exact law_16 hW (by omega) hR hO hOD hl hf (by omega) (by omega) kk
    have hf := qif_f hf c_16
    by_cases c_17 : op = 17
    · have hf := qif_t hf c_17
      refine lv_tableIn (off := 1064) (tgt := 1108) hx hb dL_law_44 (by rw [c_17]; decide) (by rw [c_17]; decide) (by rw [c_17]; decide) (by decide) ?_
      exact law_17 hW (by omega) hR hO hOD hl hf (by omega) (by omega) kk
    have hf := qif_f hf c_17
    by_cases c_18 : op = 18
    · have hf := qif_t hf c_18
      refine lv_tableIn (off := 1108) (tgt := 1152) hx hb dL_law_44 (by rw [c_18]; decide) (by rw [c_18]; decide) (by rw [c_18]; decide) (by decide) ?_
      exact law_18 hW (by omega) hR hO hOD hl hf (by omega) (by omega) kk
    have hf := qif_f hf c_18
    by_cases c_19 : op = 19
    · have hf := qif_t hf c_19
      refine lv_tableIn (off := 1164) (tgt := 1208) hx hb dL_law_44 (by rw [c_19]; decide) (by rw [c_19]; decide) (by rw [c_19]; decide) (by decide) ?_
      exact law_19 hW (by omega) hR hO hOD hl hf (by omega) (by omega) kk
    have hf := qif_f hf c_19
    by_cases c_20 : op = 20
    · have hf := qif_t hf c_20
      refine lv_tableIn (off := 1227) (tgt := 1271) hx hb dL_law_44 (by rw [c_20]; decide) (by rw [c_20]; decide) (by rw [c_20]; decide) (by decide) ?_
      exact law_20 hW (by omega) hR hO hOD hl hf (by omega) (by omega) kk
    have hf := qif_f hf c_20
    by_cases c_21 : op = 21
    · have hf := qif_t hf c_21
      refine lv_tableIn (off := 1283) (tgt := 1327) hx hb dL_law_44 (by rw [c_21]; decide) (by rw [c_21]; decide) (by rw [c_21]; decide) (by decide) ?_
      exact law_21 hW (by omega) hR hO hOD hl hf (by omega) (by omega) kk
    have hf := qif_f hf c_21
    by_cases c_22 : op = 22
    · have hf := qif_t hf c_22
      refine lv_tableIn (off := 1339) (tgt := 1383) hx hb dL_law_44 (by rw [c_22]; decide) (by rw [c_22]; decide) (by rw [c_22]; decide) (by decide) ?_
      exact law_22 hW (by omega) hR hO hOD hl hf (by omega) (by omega) kk
    have hf := qif_f hf c_22
    by_cases c_23 : op = 23
    · have hf := qif_t hf c_23
      refine lv_tableIn (off := 1395) (tgt := 1439) hx hb dL_law_44 (by rw [c_23]; decide) (by rw [c_23]; decide) (by rw [c_23]; decide) (by decide) ?_
      exact law_23 hW (by omega) hR hO hOD hl hf (by omega) (by omega) kk
    have hf := qif_f hf c_23
    by_cases c_24 : op = 24
    · have hf := qif_t hf c_24
      refine lv_tableIn (off := 1463) (tgt := 1507) hx hb dL_law_44 (by rw [c_24]; decide) (by rw [c_24]; decide) (by rw [c_24]; decide) (by decide) ?_
      exact law_24 hW (by omega) hR hO hOD hl hf (by omega) (by omega) kk
    have hf := qif_f hf c_24
    by_cases c_25 : op = 25
    · have hf := qif_t hf c_25
      refine lv_tableIn (off := 1519) (tgt := 1563) hx hb dL_law_44 (by rw [c_25]; decide) (by rw [c_25]; decide) (by rw [c_25]; decide) (by decide) ?_
      exact law_25 hW (by omega) hR hO hOD hl hf (by omega) (by omega) kk
    have hf := qif_f hf c_25
    by_cases c_26 : op = 26
    · have hf := qif_t hf c_26
      refine lv_tableIn (off := 1532) (tgt := 1576) hx hb dL_law_44 (by rw [c_26]; decide) (by rw [c_26]; decide) (by rw [c_26]; decide) (by decide) ?_
      exact law_26 hW (by omega) hR hO hOD hl hf (by omega) (by omega) kk
    have hf := qif_f hf c_26
    by_cases c_27 : op = 27
    · have hf := qif_t hf c_27
      refine lv_tableIn (off := 1588) (tgt := 1632) hx hb dL_law_44 (by rw [c_27]; decide) (by rw [c_27]; decide) (by rw [c_27]; decide) (by decide) ?_
      exact law_27 hW (by omega) hR hO hOD hl hf (by omega) (by omega) kk
    have hf := qif_f hf c_27
    by_cases c_28 : op = 28
    · have hf := qif_t hf c_28
      refine lv_tableIn (off := 1646) (tgt := 1690) hx hb dL_law_44 (by rw [c_28]; decide) (by rw [c_28]; decide) (by rw [c_28]; decide) (by decide) ?_
      exact law_28 hW (by omega) hR hO hOD hl hf (by omega) (by omega) kk
    have hf := qif_f hf c_28
    by_cases c_29 : op = 29
    · have hf := qif_t hf c_29
      refine lv_tableIn (off := 1690) (tgt := 1734) hx hb dL_law_44 (by rw [c_29]; decide) (by rw [c_29]; decide) (by rw [c_29]; decide) (by decide) ?_
      exact law_29 hW (by omega) hR hO hOD hl hf (by omega) (by omega) kk
    have hf := qif_f hf c_29
    by_cases c_30 : op = 30
    · have hf := qif_t hf c_30
      refine lv_tableIn (off := 1703) (tgt := 1747) hx hb dL_law_44 (by rw [c_30]; decide) (by rw [c_30]; decide) (by rw [c_30]; decide) (by decide) ?_
      exact law_30 hW (by omega) hR hO hOD hl hf (by omega) (by omega) kk
    have hf := qif_f hf c_30
    by_cases c_31 : op = 31
    · have hf := qif_t hf c_31
      refine lv_tableIn (off := 1775) (tgt := 1819) hx hb dL_law_44 (by rw [c_31]; decide) (by rw [c_31]; decide) (by rw [c_31]; decide) (by decide) ?_
      exact law_31 hW (by omega) hR hO hOD hl hf (by omega) (by omega) kk
    have hf := qif_f hf c_31
    by_cases c_32 : op = 32
    · have hf := qif_t hf c_32
      refine lv_tableIn (off := 1831) (tgt := 1875) hx hb dL_law_44 (by rw [c_32]; decide) (by rw [c_32]; decide) (by rw [c_32]; decide) (by decide) ?_
      exact law_32 hW (by omega) hR hO hOD hl hf (by omega) (by omega) kk
    have hf := qif_f hf c_32
    by_cases c_33 : op = 33
    · have hf := qif_t hf c_33
      refine lv_tableIn (off := 1844) (tgt := 1888) hx hb dL_law_44 (by rw [c_33]; decide) (by rw [c_33]; decide) (by rw [c_33]; decide) (by decide) ?_
      exact law_33 hW (by omega) hR hO hOD hl hf (by omega) (by omega) kk
    have hf := qif_f hf c_33
    by_cases c_34 : op = 34
    · have hf := qif_t hf c_34
      refine lv_tableIn (off := 1909) (tgt := 1953) hx hb dL_law_44 (by rw [c_34]; decide) (by rw [c_34]; decide) (by rw [c_34]; decide) (by decide) ?_
      exact law_34 hW (by omega) hR hO hOD hl hf (by omega) (by omega) kk
    have hf := qif_f hf c_34
    by_cases c_35 : op = 35
    · have hf := qif_t hf c_35
      refine lv_tableIn (off := 1975) (tgt := 2019) hx hb dL_law_44 (by rw [c_35]; decide) (by rw [c_35]; decide) (by rw [c_35]; decide) (by decide) ?_
      exact law_35 hW (by omega) hR hO hOD hl hf (by omega) (by omega) kk
    have hf := qif_f hf c_35
    by_cases c_36 : op = 36
    · have hf := qif_t hf c_36
      refine lv_tableIn (off := 2019) (tgt := 2063) hx hb dL_law_44 (by rw [c_36]; decide) (by rw [c_36]; decide) (by rw [c_36]; decide) (by decide) ?_
      exact law_36 hW (by omega) hR hO hOD hl hf (by omega) (by omega) kk
    have hf := qif_f hf c_36
    by_cases c_37 : op = 37
    · have hf := qif_t hf c_37
      refine lv_tableIn (off := 2032) (tgt := 2076) hx hb dL_law_44 (by rw [c_37]; decide) (by rw [c_37]; decide) (by rw [c_37]; decide) (by decide) ?_
      exact law_37 hW (by omega) hR hO hOD hl hf (by omega) (by omega) kk
    have hf := qif_f hf c_37
    refine lv_tableOut (tgt := 2120) hx hb dL_law_44 (by have h_0 := qne (z := 0) c_0 rfl; have h_1 := qne (z := 1) c_1 rfl; have h_2 := qne (z := 2) c_2 rfl; have h_3 := qne (z := 3) c_3 rfl; have h_4 := qne (z := 4) c_4 rfl; have h_5 := qne (z := 5) c_5 rfl; have h_6 := qne (z := 6) c_6 rfl; have h_7 := qne (z := 7) c_7 rfl; have h_8 := qne (z := 8) c_8 rfl; have h_9 := qne (z := 9) c_9 rfl; have h_10 := qne (z := 10) c_10 rfl; have h_11 := qne (z := 11) c_11 rfl; have h_12 := qne (z := 12) c_12 rfl; have h_13 := qne (z := 13) c_13 rfl; have h_14 := qne (z := 14) c_14 rfl; have h_15 := qne (z := 15) c_15 rfl; have h_16 := qne (z := 16) c_16 rfl; have h_17 := qne (z := 17) c_17 rfl; have h_18 := qne (z := 18) c_18 rfl; have h_19 := qne (z := 19) c_19 rfl; have h_20 := qne (z := 20) c_20 rfl; have h_21 := qne (z := 21) c_21 rfl; have h_22 := qne (z := 22) c_22 rfl; have h_23 := qne (z := 23) c_23 rfl; have h_24 := qne (z := 24) c_24 rfl; have h_25 := qne (z := 25) c_25 rfl; have h_26 := qne (z := 26) c_26 rfl; have h_27 := qne (z := 27) c_27 rfl; have h_28 := qne (z := 28) c_28 rfl; have h_29 := qne (z := 29) c_29 rfl; have h_30 := qne (z := 30) c_30 rfl; have h_31 := qne (z := 31) c_31 rfl; have h_32 := qne (z := 32) c_32 rfl; have h_33 := qne (z := 33) c_33 rfl; have h_34 := qne (z := 34) c_34 rfl; have h_35 := qne (z := 35) c_35 rfl; have h_36 := qne (z := 36) c_36 rfl; have h_37 := qne (z := 37) c_37 rfl; omega) (by decide) ?_
    have hwe := qso hf
    subst hwe
    exact kk H locs ls f0 g0 cc cs (by omega) (by omega) hR hO hOD hl
