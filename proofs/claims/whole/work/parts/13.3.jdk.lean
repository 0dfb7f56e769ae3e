set_option maxHeartbeats 4000000 in
set_option maxRecDepth 100000 in
theorem mJ1_canEncode {l : Launch} {D : va_G} {G : Nat → ClassId} {ad : Nat → Nat} (hJ : qInj ad) {w : qMem}  : qCY l D G ad yJ1_canEncode_9a6ad cJ1_canEncode_9a6ad 1 (some .boolean) 1 0 0 [.int 32] w qNo (fun st => qQI D G ad st w 1) := by
  refine q_startY RJ1 rfl (by decide +kernel) hJ (fun a b h => by simp only [qQI, h]) (Nat.le_of_ble_eq_true rfl) ?_
  intro p e s m args below meth c0 ls hC hr hE hR hl
  have hx := hC.1
  have hb := hC.2.1
  have hts := hC.2.2.2.2.1
  have hown := hC.2.2.2.1
  have hl : lv_has ls 1 [(0, .int 32)] := hl
  refine lv_iload_n hx hb dJ1_canEncode_9a6ad_0 rfl (lv_at hl 0 rfl) ?_
  refine lv_if_lt (tgt := 15) hx hb dJ1_canEncode_9a6ad_1 (by decide) (fun c_1 => absurd c_1 (by decide)) (fun _ => ?_)
  refine lv_iload_n hx hb dJ1_canEncode_9a6ad_4 rfl (lv_at hl 0 rfl) ?_
  refine lv_sipush (v := 255) hx hb dJ1_canEncode_9a6ad_5 (by decide) ?_
  refine lv_icmp_gt (tgt := 15) hx hb dJ1_canEncode_9a6ad_8 (by decide) (fun c_1 => absurd c_1 (by decide)) (fun _ => ?_)
  refine lv_iconst (v := 1) hx hb dJ1_canEncode_9a6ad_11 (by decide) ?_
  refine lv_goto (tgt := 16) hx hb dJ1_canEncode_9a6ad_12 (by decide) ?_
  exact q_iret hC hR hr (by decide) rfl rfl dJ1_canEncode_9a6ad_16
set_option maxHeartbeats 4000000 in
set_option maxRecDepth 100000 in
theorem mJ1_indexOfChar_L7 {p : Program} {l : Launch} {e : Env} {s : State} {m : MethodId} {args : Array Value} {below : List Frame} {meth : Method} {c0 : Code} {D : va_G} {G : Nat → ClassId} {ad : Nat → Nat} {w : qMem} {v : Nat} {t : List Int32} {b0 e0 : Nat} (hC : qCx p c0 cJ1_indexOfChar_4cfef 6 s m args meth RJ1 D G ad) (hr : meth.sig.returnType = some .int) (hE : qBy v t (qAdr ad s.heap.size) s s.heap) (hlt : e0 < t.length) (hno : ∀ j : Nat, b0 ≤ j → j < e0 → t.getD j 0 ≠ 32) (hyes : t.getD e0 0 = 32) : ∀ (n j : Nat) (H : Heap) (locs : List Loc) (ls : Array Slot), b0 ≤ j → j ≤ e0 → e0 < j + n → qRp D G ad s w H locs → lv_has ls 6 [(5, .int (nI j)), (4, .int 32), (0, .ref v), (3, .int (nI t.length))] → W p l e (qrm 1 0 0) s m args below meth c0 H locs 0 0 (MQ below (qQI D G ad s w (nI e0)) args s 0 0 (qAdr ad s.heap.size)) (F0 m 7 ls []) := by
  have hx := hC.1
  have hb := hC.2.1
  have hL : t.length < 2 ^ 31 := Nat.lt_of_lt_of_le (qasc_len hE.1) (by decide)
  intro n
  induction n with
  | zero => intro j H locs ls h1 h2 h3; exact absurd h3 (by omega)
  | succ n ih =>
    intro j H locs ls h1 h2 h3 hR hl
    refine lv_iload hx hb dJ1_indexOfChar_4cfef_7 (lv_at hl 0 rfl) ?_
    refine lv_iload_n hx hb dJ1_indexOfChar_4cfef_9 rfl (lv_at hl 3 rfl) ?_
    refine lv_icmp_ge (tgt := 31) hx hb dJ1_indexOfChar_4cfef_10 (by decide) (fun c_1 => absurd c_1 (nI_ge (by omega) hL)) (fun _ => ?_)
    refine lv_aload_n hx hb dJ1_indexOfChar_4cfef_13 rfl (lv_at hl 2 rfl) ?_
    refine lv_iload hx hb dJ1_indexOfChar_4cfef_14 (lv_at hl 0 rfl) ?_
    refine va_tb (v := .int (t.getD j 0)) hx hb hE.2 hR.2 (vp_in_nI (by omega) hL) (by rw [nI_clamp (by omega)]) dJ1_indexOfChar_4cfef_16 ?_
    refine lv_iload hx hb dJ1_indexOfChar_4cfef_17 (lv_at hl 1 rfl) ?_
    refine lv_icmp_ne (tgt := 25) hx hb dJ1_indexOfChar_4cfef_19 (by decide) (fun c_1 => ?_) (fun c_1 => ?_)
    · have hj : j ≠ e0 := fun q => c_1 (by rw [q]; exact hyes)
      refine lv_iinc (v := nI (j + 1)) (lv' := [(5, .int (nI (j + 1))), (4, .int 32), (0, .ref v), (3, .int (nI t.length))]) hx hb dJ1_indexOfChar_4cfef_25 hl (k := 0) rfl (nI_1 j) (by decide) rfl (fun ls hl => ?_)
      refine lv_goto (tgt := 7) hx hb dJ1_indexOfChar_4cfef_28 (by decide) ?_
      exact ih (j + 1) _ _ _ (by omega) (by omega) (by omega) hR hl
    · have hj : j = e0 := by
        rcases Nat.lt_or_ge j e0 with q | q
        · exact absurd c_1 (hno j h1 q)
        · omega
      subst hj
      refine lv_iload hx hb dJ1_indexOfChar_4cfef_22 (lv_at hl 0 rfl) ?_
      exact q_iret hC hR hr rfl rfl rfl dJ1_indexOfChar_4cfef_24
set_option maxHeartbeats 4000000 in
set_option maxRecDepth 100000 in
theorem mJ1_indexOfChar {l : Launch} {D : va_G} {G : Nat → ClassId} {ad : Nat → Nat} (hJ : qInj ad) {w : qMem} {v : Nat} {t : List Int32} {b0 e0 : Nat} (hle : b0 ≤ e0) (hlt : e0 < t.length) (hno : ∀ j : Nat, b0 ≤ j → j < e0 → t.getD j 0 ≠ 32) (hyes : t.getD e0 0 = 32) : qCY l D G ad yJ1_indexOfChar_4cfef cJ1_indexOfChar_4cfef 6 (some .int) 1 0 0 [.ref v, .int 32, .int (nI b0), .int (nI t.length)] w (qBy v t) (fun st => qQI D G ad st w (nI e0)) := by
  refine q_startY RJ1 rfl (by decide +kernel) hJ (fun a b h => by simp only [qQI, h]) (Nat.le_of_ble_eq_true rfl) ?_
  intro p e s m args below meth c0 ls hC hr hE hR hl
  have hx := hC.1
  have hb := hC.2.1
  have hts := hC.2.2.2.2.1
  have hown := hC.2.2.2.1
  have hl : lv_has ls 6 [(0, .ref v), (1, .int 32), (2, .int (nI b0)), (3, .int (nI t.length))] := hl
  refine lv_iload_n hx hb dJ1_indexOfChar_4cfef_0 rfl (lv_at hl 1 rfl) ?_
  refine lv_i2b (v := 32) hx hb dJ1_indexOfChar_4cfef_1 (by decide) ?_
  refine lv_istore (lv' := [(4, .int 32), (0, .ref v), (1, .int 32), (2, .int (nI b0)), (3, .int (nI t.length))]) hx hb dJ1_indexOfChar_4cfef_2 hl (by decide) rfl (fun ls hl => ?_)
  refine lv_iload_n hx hb dJ1_indexOfChar_4cfef_4 rfl (lv_at hl 3 rfl) ?_
  refine lv_istore (lv' := [(5, .int (nI b0)), (4, .int 32), (0, .ref v), (1, .int 32), (2, .int (nI b0)), (3, .int (nI t.length))]) hx hb dJ1_indexOfChar_4cfef_5 hl (by decide) rfl (fun ls hl => ?_)
  exact mJ1_indexOfChar_L7 hC hr hE hlt hno hyes (e0 + 1) b0 _ _ _ (Nat.le_refl _) hle (by omega) hR (lv_sub hl [0, 1, 2, 5] rfl)
set_option maxHeartbeats 4000000 in
set_option maxRecDepth 100000 in
theorem mJ1_indexOf {l : Launch} {D : va_G} {G : Nat → ClassId} {ad : Nat → Nat} (hJ : qInj ad) {w : qMem} {v : Nat} {t : List Int32} {b0 e0 : Nat} (hle : b0 ≤ e0) (hlt : e0 < t.length) (hno : ∀ j : Nat, b0 ≤ j → j < e0 → t.getD j 0 ≠ 32) (hyes : t.getD e0 0 = 32) : qCY l D G ad yJ1_indexOf_4cfef cJ1_indexOf_4cfef 4 (some .int) 2 0 0 [.ref v, .int 32, .int (nI b0), .int (nI t.length)] w (qBy v t) (fun st => qQI D G ad st w (nI e0)) := by
  refine q_startY RJ1 rfl (by decide +kernel) hJ (fun a b h => by simp only [qQI, h]) (Nat.le_of_ble_eq_true rfl) ?_
  intro p e s m args below meth c0 ls hC hr hE hR hl
  have hx := hC.1
  have hb := hC.2.1
  have hts := hC.2.2.2.2.1
  have hown := hC.2.2.2.1
  have hl : lv_has ls 4 [(0, .ref v), (1, .int 32), (2, .int (nI b0)), (3, .int (nI t.length))] := hl
  have hL : t.length < 2 ^ 31 := Nat.lt_of_lt_of_le (qasc_len hE.1) (by decide)
  refine lv_iload_n hx hb dJ1_indexOf_4cfef_0 rfl (lv_at hl 1 rfl) ?_
  refine q_callYSi (As := [.int 32]) (rest := []) hC hR (mJ1_canEncode hJ) qNo_k trivial qkj_1466 qkj_1467 qkj_78 qkj_1468 qhd_J1_canEncode_9a6ad ⟨Nat.le_of_ble_eq_true rfl, Nat.le_of_ble_eq_true rfl⟩ hl.1 rfl (Nat.le_of_ble_eq_true rfl) dJ1_indexOf_4cfef_1 ⟨Nat.zero_le _, Nat.zero_le _⟩ (fun H locs _ _ hR => ?_)
  refine lv_if_ne (tgt := 9) hx hb dJ1_indexOf_4cfef_4 (by decide) (fun _ => ?_) (fun c_1 => absurd c_1 (by decide))
  refine lv_iload_n hx hb dJ1_indexOf_4cfef_9 rfl (lv_at hl 2 rfl) ?_
  refine lv_iconst (v := 0) hx hb dJ1_indexOf_4cfef_10 (by decide) ?_
  refine va_mmax hx hb (hC.2.2.1.trans hl.1.symm) hown (hts _ qkj_1469) (hts _ qkj_1294) (hts _ qk_65) (hts _ qk_1295) (Nat.le_of_ble_eq_true rfl) (Nat.le_of_ble_eq_true rfl) (Nat.zero_le _) (Nat.zero_le _) dJ1_indexOf_4cfef_11 ?_
  rw [if_neg (nI_pos (n := b0) (by omega))]
  refine lv_istore_n (lv' := [(2, .int (nI b0)), (0, .ref v), (1, .int 32), (3, .int (nI t.length))]) hx hb dJ1_indexOf_4cfef_14 rfl hl (by decide) rfl (fun ls hl => ?_)
  refine lv_iload_n hx hb dJ1_indexOf_4cfef_15 rfl (lv_at hl 3 rfl) ?_
  refine lv_aload_n hx hb dJ1_indexOf_4cfef_16 rfl (lv_at hl 1 rfl) ?_
  refine va_tlen (v := nI t.length) hx hb hE.2 hR.2 rfl dJ1_indexOf_4cfef_17 ?_
  refine va_mmin hx hb (hC.2.2.1.trans hl.1.symm) hown (hts _ qkj_1470) (hts _ qkj_1471) (hts _ qk_65) (hts _ qkj_1472) (Nat.le_of_ble_eq_true rfl) (Nat.le_of_ble_eq_true rfl) (Nat.zero_le _) (Nat.zero_le _) dJ1_indexOf_4cfef_18 ?_
  rw [ite_self]
  refine lv_istore_n (lv' := [(3, .int (nI t.length)), (2, .int (nI b0)), (0, .ref v), (1, .int 32)]) hx hb dJ1_indexOf_4cfef_21 rfl hl (by decide) rfl (fun ls hl => ?_)
  refine lv_iload_n hx hb dJ1_indexOf_4cfef_22 rfl (lv_at hl 1 rfl) ?_
  refine lv_iload_n hx hb dJ1_indexOf_4cfef_23 rfl (lv_at hl 0 rfl) ?_
  refine lv_icmp_lt (tgt := 29) hx hb dJ1_indexOf_4cfef_24 (by decide) (fun _ => ?_) (fun c_1 => absurd (nI_lt (by omega) hL) c_1)
  refine lv_aload_n hx hb dJ1_indexOf_4cfef_29 rfl (lv_at hl 2 rfl) ?_
  refine lv_iload_n hx hb dJ1_indexOf_4cfef_30 rfl (lv_at hl 3 rfl) ?_
  refine lv_iload_n hx hb dJ1_indexOf_4cfef_31 rfl (lv_at hl 1 rfl) ?_
  refine lv_iload_n hx hb dJ1_indexOf_4cfef_32 rfl (lv_at hl 0 rfl) ?_
  refine q_callYSi (As := [.ref v, .int 32, .int (nI b0), .int (nI t.length)]) (rest := []) hC hR (mJ1_indexOfChar hJ hle hlt hno hyes) qBy_k (qX_now qBy_k hE hR) qkj_1473 qkj_1474 qkj_78 qkj_1475 qhd_J1_indexOfChar_4cfef ⟨Nat.le_of_ble_eq_true rfl, Nat.le_of_ble_eq_true rfl⟩ hl.1 rfl (Nat.le_of_ble_eq_true rfl) dJ1_indexOf_4cfef_33 ⟨Nat.zero_le _, Nat.zero_le _⟩ (fun H locs _ _ hR => ?_)
  exact q_iret hC hR hr rfl rfl rfl dJ1_indexOf_4cfef_36
set_option maxHeartbeats 4000000 in
set_option maxRecDepth 100000 in
theorem mJ0_indexOf {l : Launch} {D : va_G} {G : Nat → ClassId} {ad : Nat → Nat} (hJ : qInj ad) {w : qMem} {q : Nat} {t : List Int32} {b0 e0 : Nat} (hle : b0 ≤ e0) (hlt : e0 < t.length) (hno : ∀ j : Nat, b0 ≤ j → j < e0 → t.getD j 0 ≠ 32) (hyes : t.getD e0 0 = 32) : qCY l D G ad yJ0_indexOf_7cf53 cJ0_indexOf_7cf53 3 (some .int) 3 0 0 [.ref q, .int 32, .int (nI b0)] w (qSt q t) (fun st => qQI D G ad st w (nI e0)) := by
  refine q_startY RJ0 rfl (by decide +kernel) hJ (fun a b h => by simp only [qQI, h]) (Nat.le_of_ble_eq_true rfl) ?_
  intro p e s m args below meth c0 ls hC hr hE hR hl
  have hx := hC.1
  have hb := hC.2.1
  have hts := hC.2.2.2.2.1
  have hown := hC.2.2.2.1
  have hl : lv_has ls 3 [(0, .ref q), (1, .int 32), (2, .int (nI b0))] := hl
  obtain ⟨-, -, v, hv, hB⟩ := id hE
  refine lv_aload_n hx hb dJ0_indexOf_7cf53_0 rfl (lv_at hl 0 rfl) ?_
  refine q_callYVi hC hR (mJ0_isLatin1 (t := t) hJ) qSt_k (qX_now qSt_k hE hR) (qSt_rc (qX_now qSt_k hE hR)) qkj_972 qkj_973 qkj_974 qkj_74 qkj_975 qhd_J0_isLatin1_aae02 ⟨Nat.le_of_ble_eq_true rfl, Nat.le_of_ble_eq_true rfl⟩ hl.1 rfl (Nat.le_of_ble_eq_true rfl) dJ0_indexOf_7cf53_1 ⟨Nat.zero_le _, Nat.zero_le _⟩ (fun H locs hz hk hR => ?_)
  refine lv_if_eq (tgt := 23) hx hb dJ0_indexOf_7cf53_4 (by decide) (fun c_1 => absurd c_1 (by decide)) (fun _ => ?_)
  refine lv_aload_n hx hb dJ0_indexOf_7cf53_7 rfl (lv_at hl 0 rfl) ?_
  refine vk_getf hx hb hv hR.2 hown (hts _ qkj_1710) (fun _ h9 => h9) dJ0_indexOf_7cf53_8 ?_
  refine lv_iload_n hx hb dJ0_indexOf_7cf53_11 rfl (lv_at hl 1 rfl) ?_
  refine lv_iload_n hx hb dJ0_indexOf_7cf53_12 rfl (lv_at hl 2 rfl) ?_
  refine lv_aload_n hx hb dJ0_indexOf_7cf53_13 rfl (lv_at hl 0 rfl) ?_
  refine q_callYVi hC hR (mJ0_length (t := t) hJ) qSt_k (qX_now qSt_k hE hR) (qSt_rc (qX_now qSt_k hE hR)) qkj_1462 qkj_959 qkj_960 qkj_74 qkj_961 qhd_J0_length_8abf5 ⟨Nat.le_of_ble_eq_true rfl, Nat.le_of_ble_eq_true rfl⟩ hl.1 rfl (Nat.le_of_ble_eq_true rfl) dJ0_indexOf_7cf53_14 ⟨Nat.zero_le _, Nat.zero_le _⟩ (fun H locs hz hk hR => ?_)
  refine q_callYSi (As := [.ref v, .int 32, .int (nI b0), .int (nI t.length)]) (rest := []) hC hR (mJ1_indexOf hJ hle hlt hno hyes) qBy_k (qX_now qBy_k hB hR) qkj_1463 qkj_1464 qkj_78 qkj_1465 qhd_J1_indexOf_4cfef ⟨Nat.le_of_ble_eq_true rfl, Nat.le_of_ble_eq_true rfl⟩ hl.1 rfl (Nat.le_of_ble_eq_true rfl) dJ0_indexOf_7cf53_17 ⟨Nat.zero_le _, Nat.zero_le _⟩ (fun H locs _ _ hR => ?_)
  refine lv_goto (tgt := 36) hx hb dJ0_indexOf_7cf53_20 (by decide) ?_
  exact q_iret hC hR hr rfl rfl rfl dJ0_indexOf_7cf53_36
set_option maxHeartbeats 4000000 in
set_option maxRecDepth 100000 in
theorem mJ3_checkFromToIndex {l : Launch} {D : va_G} {G : Nat → ClassId} {ad : Nat → Nat} (hJ : qInj ad) {w : qMem} {i j n : Int32} {v : Value} (hv : v = .null ∨ ∃ t : Nat, v = .ref t) (h0 : ¬ i < 0) (h1 : i ≤ j) (h2 : j ≤ n) : qCMi l D G ad yJ3_checkFromToIndex_8c36e cJ3_checkFromToIndex_8c36e 4 (some .int) 1 0 0 [.int i, .int j, .int n, v] w i w := by
  have hlen : (lg_sl [.int i, .int j, .int n, v]).length ≤ 4 := by rcases hv with rfl | ⟨t, rfl⟩ <;> exact Nat.le_of_ble_eq_true rfl
  have hlv : lv_args 0 [.int i, .int j, .int n, v] = [(0, .int i), (1, .int j), (2, .int n), (3, v)] := by rcases hv with rfl | ⟨t, rfl⟩ <;> rfl
  refine q_start RJ3 rfl (by decide +kernel) hJ (fun a b h => by simp only [qQI, h]) hlen ?_
  intro p e s m args below meth c0 ls hC hr hR hl
  rw [hlv] at hl
  have hx := hC.1
  have hb := hC.2.1
  have hts := hC.2.2.2.2.1
  have hown := hC.2.2.2.1
  have hl : lv_has ls 4 [(0, .int i), (1, .int j), (2, .int n), (3, v)] := hl
  refine lv_iload_n hx hb dJ3_checkFromToIndex_8c36e_0 rfl (lv_at hl 0 rfl) ?_
  refine lv_if_lt (tgt := 14) hx hb dJ3_checkFromToIndex_8c36e_1 (by decide) (fun c_1 => absurd c_1 h0) (fun _ => ?_)
  refine lv_iload_n hx hb dJ3_checkFromToIndex_8c36e_4 rfl (lv_at hl 0 rfl) ?_
  refine lv_iload_n hx hb dJ3_checkFromToIndex_8c36e_5 rfl (lv_at hl 1 rfl) ?_
  refine lv_icmp_gt (tgt := 14) hx hb dJ3_checkFromToIndex_8c36e_6 (by decide) (fun c_1 => absurd h1 (Int32.not_le.mpr c_1)) (fun _ => ?_)
  refine lv_iload_n hx hb dJ3_checkFromToIndex_8c36e_9 rfl (lv_at hl 1 rfl) ?_
  refine lv_iload_n hx hb dJ3_checkFromToIndex_8c36e_10 rfl (lv_at hl 2 rfl) ?_
  refine lv_icmp_le (tgt := 22) hx hb dJ3_checkFromToIndex_8c36e_11 (by decide) (fun _ => ?_) (fun c_1 => absurd h2 c_1)
  refine lv_iload_n hx hb dJ3_checkFromToIndex_8c36e_22 rfl (lv_at hl 0 rfl) ?_
  exact q_iret hC hR hr rfl rfl rfl dJ3_checkFromToIndex_8c36e_23
set_option maxHeartbeats 4000000 in
set_option maxRecDepth 100000 in
theorem mJ0_checkBounds {l : Launch} {D : va_G} {G : Nat → ClassId} {ad : Nat → Nat} (hJ : qInj ad) {w : qMem} {i j n : Int32} (h0 : ¬ i < 0) (h1 : i ≤ j) (h2 : j ≤ n) : qCY l D G ad yJ0_checkBoundsBeginEnd_23922 cJ0_checkBoundsBeginEnd_23922 3 none 2 0 0 [.int i, .int j, .int n] w qNo (fun st => qQV D G ad st w) := by
  refine q_startY RJ0 rfl (by decide +kernel) hJ (fun a b h => by simp only [qQV, h]) (Nat.le_of_ble_eq_true rfl) ?_
  intro p e s m args below meth c0 ls hC hr hE hR hl
  have hx := hC.1
  have hb := hC.2.1
  have hts := hC.2.2.2.2.1
  have hown := hC.2.2.2.1
  have hl : lv_has ls 3 [(0, .int i), (1, .int j), (2, .int n)] := hl
  refine lv_iload_n hx hb dJ0_checkBoundsBeginEnd_23922_0 rfl (lv_at hl 0 rfl) ?_
  refine lv_iload_n hx hb dJ0_checkBoundsBeginEnd_23922_1 rfl (lv_at hl 1 rfl) ?_
  refine lv_iload_n hx hb dJ0_checkBoundsBeginEnd_23922_2 rfl (lv_at hl 2 rfl) ?_
  obtain ⟨v, hv, hZ⟩ : ∃ v : Value, (v = .null ∨ ∃ t : Nat, v = .ref t) ∧ va_Z RJ3 "SIOOBE_FORMATTER" "Ljava/util/function/BiFunction;" v (qAdr ad s.heap.size) s s.heap := by
    rcases hC.2.2.2.2.2.2.2.2.1.1.2 with h | ⟨t, h⟩
    · exact ⟨_, Or.inl rfl, h⟩
    · exact ⟨_, Or.inr ⟨t, rfl⟩, h⟩
  refine va_gets hx hb hZ hR.2 hown (hts _ qkj_982) (fun _ h9 => h9) dJ0_checkBoundsBeginEnd_23922_3 ?_
  refine q_callSi (As := [.int i, .int j, .int n, v]) (rest := []) hC hR (mJ3_checkFromToIndex hJ hv h0 h1 h2) qkj_1491 qkj_1492 qkj_79 qkj_1493 qhd_J3_checkFromToIndex_8c36e ⟨Nat.le_of_ble_eq_true rfl, Nat.le_of_ble_eq_true rfl⟩ hl.1 rfl (Nat.le_of_ble_eq_true rfl) dJ0_checkBoundsBeginEnd_23922_6 ⟨Nat.zero_le _, Nat.zero_le _⟩ (fun H locs hR => ?_)
  refine lv_pop hx hb dJ0_checkBoundsBeginEnd_23922_9 rfl ?_
  exact q_vret hC hR hr rfl dJ0_checkBoundsBeginEnd_23922_10
set_option maxHeartbeats 4000000 in
set_option maxRecDepth 100000 in
theorem mJ7_checkLength {l : Launch} {D : va_G} {G : Nat → ClassId} {ad : Nat → Nat} (hJ : qInj ad) {w : qMem} {i j : Int32} (h1 : i ≤ j) : qCY l D G ad yJ7_checkLength_df160 cJ7_checkLength_df160 2 none 1 0 0 [.int i, .int j] w qNo (fun st => qQV D G ad st w) := by
  refine q_startY RJ7 rfl (by decide +kernel) hJ (fun a b h => by simp only [qQV, h]) (Nat.le_of_ble_eq_true rfl) ?_
  intro p e s m args below meth c0 ls hC hr hE hR hl
  have hx := hC.1
  have hb := hC.2.1
  have hts := hC.2.2.2.2.1
  have hown := hC.2.2.2.1
  have hl : lv_has ls 2 [(0, .int i), (1, .int j)] := hl
  refine lv_iload_n hx hb dJ7_checkLength_df160_0 rfl (lv_at hl 1 rfl) ?_
  refine lv_iload_n hx hb dJ7_checkLength_df160_1 rfl (lv_at hl 0 rfl) ?_
  refine lv_icmp_ge (tgt := 37) hx hb dJ7_checkLength_df160_2 (by decide) (fun _ => ?_) (fun c_1 => absurd h1 c_1)
  exact q_vret hC hR hr rfl dJ7_checkLength_df160_37
