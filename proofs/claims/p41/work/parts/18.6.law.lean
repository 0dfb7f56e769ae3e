theorem ls_min {cap n : Nat} (h : n ≤ cap) (hc : cap < 2 ^ 31) : (if nI n < nI cap then nI n else nI cap) = nI n := by
  by_cases h1 : n < cap
  · rw [if_pos (nI_lt h1 hc)]
  · rw [if_neg (nI_nlt (by omega) (by omega)), show cap = n by omega]
theorem lclo_f {f : Nat → Int32} {n : Nat} {cA : ClassId} (hf : sb_Fit f) : ∀ (i : Nat) (v : Value), (vp_cell cA (n, .inl f)).slots[i]? = some v → fits .byte v = true := fun i v hv => by
  rw [vp_cell_i] at hv
  by_cases h : i < n
  · rw [arrV_read _ _ h] at hv
    cases hv
    exact hf i
  · rw [Array.getElem?_eq_none (by rw [arrV_size]; omega)] at hv
    cases hv
theorem lclo_w : Cond.castable "[B" "java/lang/Cloneable" ∈ lw_ct := by decide +kernel
section
variable {p : Program} {l : Launch} {e : Env} {R : Room} {s : State} {m : MethodId} {args : Array Value} {below : List Frame} {meth : Method} {c : Code} {H : Heap} {locs : List Loc} {cells slots : Nat} {Q : State → Prop} {pc nL : Nat} {ls : Array Slot} {rest : List Value} {cc : ByteArray} {own : String} {D : va_G} {G : Nat → ClassId} {ad : Nat → Nat} {X0 X : va_W}
theorem l_callSv {y : MethodName} {bytes : ByteArray} {maxL d mc ms index : Nat} {ret : Option FieldType} {As st : List Value} {T : Type} {X Xc Xr : va_W} {X1c X1 : T → va_W} {Y : T → Prop} {E : (Nat → Prop) → State → Heap → Prop} (hC : lCx p c cc nL s m args meth own D G ad X0) (hR : lR D X0 X s H locs)
    (hM : lCM l D G ad y (Cond.code y bytes maxL ret) d mc ms As Xc E (lQv D ad Xc X1c Y)) (hXk : qXk E) (hE : E (lA ad X H.size) s H) (hp : X.Perm (Xc ++ Xr)) (hp1 : ∀ u, (X1c u ++ Xr).Perm (X1 u)) (hlk : Cond.methodLink own index y ∈ lw_gd) (hin : Cond.static y ∈ lw_gd) (hini : Cond.initialized y.cls ∈ lw_gd) (hcode : Cond.code y bytes maxL ret ∈ lw_gd)
    (hd : y.cls ≠ "java/lang/invoke/MethodHandle" ∧ y.cls ≠ "java/lang/invoke/VarHandle" ∧ (parseMethodDescriptor y.desc).map (fun d => d.parameters.length) = some As.length) (hroom : d + 1 ≤ R.frames ∧ 8 + (maxL + 11) + 40 * d ≤ R.locals) (hsz : ls.size = nL) (hst : st = As.reverse ++ rest) (hcat : (rest.map fun v => v.category).sum ≤ 8) (hdg : decode cc pc = .ok (.invokestatic index, 3)) (hf : cells + mc ≤ R.cells ∧ slots + ms ≤ R.slots)
    (kk : ∀ (u : T) (H1 : Heap) (locs1 : List Loc), Y u → lR D X0 (X1 u) s H1 locs1 → lKp ad X H (X1 u) H1 → W p l e R s m args below meth c H1 locs1 (cells + mc) (slots + ms) Q (F0 m (pc + 3) ls rest)) : W p l e R s m args below meth c H locs cells slots Q (F0 m pc ls st) := by
  have hts := hC.2.2.2.2.1
  have hcB : CallB R s args own index y bytes maxL ret (Cond.code y bytes maxL ret :: lw_gd) (qrm d mc ms) mc ms As.length := callB_of As.length hts (q_goodIn hcode) rfl rfl rfl (hts _ hini) (hts _ hlk) hd hroom
  let sH : State := { s with heap := H }
  have hA : ∀ q : Nat, va_A Xc H.size q → va_A X0 s.heap.size q := fun q hq => by
    rcases va_A_iff.mp hq with ⟨z, hz, rfl⟩ | hq
    · exact lD_in hR.2.1 z (hp.mem_iff.mpr (List.mem_append_left _ hz))
    · exact Or.inr (Nat.le_trans hR.2.2.1 hq)
  refine va_callv (va_runS (As := As) (rest := rest) (Ts := lw_gd) ⟨hC.1, hC.2.1, hC.2.2.1, hC.2.2.2.1, hts⟩ (hM sH) ⟨hcB, hts _ hin⟩ ⟨lE_blind hXk, fun U hU hW => ⟨rfl, l_pre hC hR hp hXk hE hU hW⟩⟩ rfl rfl hsz hst (lv_room hcat) hdg hf) hR.2.2 (fun q _ h => hA q h) hA (fun u t H1 locs1 ht hvm hw hB hz1 hk1 hS1 => ?_)
  obtain ⟨v, hY, hB, hD1⟩ := hB
  rw [ht] at hB
  obtain ⟨h1, h2⟩ := lR_join (ad := ad) hR hp (hp1 v) hz1 hk1 hB hD1 hS1
  exact kk v H1 locs1 hY h1 h2
end
theorem qhd_B_ssize : yJ6_stringSize_0f7a4.cls ≠ "java/lang/invoke/MethodHandle" ∧ yJ6_stringSize_0f7a4.cls ≠ "java/lang/invoke/VarHandle" ∧ (parseMethodDescriptor yJ6_stringSize_0f7a4.desc).map (fun d => d.parameters.length) = some 1 := ⟨by decide +kernel, by decide +kernel, by decide +kernel⟩
set_option maxHeartbeats 4000000 in
set_option maxRecDepth 100000 in
theorem mB_ssize {l : Launch} {D : va_G} {G : Nat → ClassId} {ad : Nat → Nat} (hJ : qInj ad) {x : Nat} (hx9 : x < 100) : lCM l D G ad yJ6_stringSize_0f7a4 (Cond.code yJ6_stringSize_0f7a4 cJ6_stringSize_0f7a4 4 (some .int)) 1 0 0 [.int (nI x)] (lX [] [] []) (fun _ _ _ => True) (fun st => lQi D (lX [] [] []) (lX [] [] []) st (nI (if x < 10 then 1 else 2))) := by
  refine l_start RJ6 rfl (by decide +kernel) hJ (fun a b h => by simp only [lQi, lQv, lQr, h]) (Nat.le_of_ble_eq_true rfl) ?_
  intro p e s m args below meth c ls hC hr hmi hE hR hl
  have hx := hC.1
  have hb := hC.2.1
  have hts := hC.2.2.2.2.1
  have hl : lv_has ls 4 [(0, .int (nI x))] := hl
  obtain ⟨g1, g2, g3, g4, -, -, -, -, -⟩ := ls_neg x hx9
  refine lv_iconst (v := 1) hx hb dJ6_stringSize_0f7a4_0 (by decide) ?_
  refine lv_istore_n (lv' := [(1, .int 1), (0, .int (nI x))]) hx hb dJ6_stringSize_0f7a4_1 rfl hl (by decide) rfl (fun ls hl => ?_)
  refine lv_iload_n hx hb dJ6_stringSize_0f7a4_2 rfl (lv_at hl 1 rfl) ?_
  refine lv_if_lt (tgt := 11) hx hb dJ6_stringSize_0f7a4_3 (by decide) (fun hbr => absurd hbr (g1)) (fun hbr => ?_)
  refine lv_iconst (v := 0) hx hb dJ6_stringSize_0f7a4_6 (by decide) ?_
  refine lv_istore_n (lv' := [(1, .int 0), (0, .int (nI x))]) hx hb dJ6_stringSize_0f7a4_7 rfl hl (by decide) rfl (fun ls hl => ?_)
  refine lv_iload_n hx hb dJ6_stringSize_0f7a4_8 rfl (lv_at hl 1 rfl) ?_
  refine lv_ineg hx hb dJ6_stringSize_0f7a4_9 ?_
  refine lv_istore_n (lv' := [(0, .int (-(nI x))), (1, .int 0)]) hx hb dJ6_stringSize_0f7a4_10 rfl hl (by decide) rfl (fun ls hl => ?_)
  refine lv_bipush (v := (-10)) hx hb dJ6_stringSize_0f7a4_11 (by decide) ?_
  refine lv_istore_n (lv' := [(2, .int (-10)), (0, .int (-(nI x))), (1, .int 0)]) hx hb dJ6_stringSize_0f7a4_13 rfl hl (by decide) rfl (fun ls hl => ?_)
  refine lv_iconst (v := 1) hx hb dJ6_stringSize_0f7a4_14 (by decide) ?_
  refine lv_istore_n (lv' := [(3, .int 1), (2, .int (-10)), (0, .int (-(nI x))), (1, .int 0)]) hx hb dJ6_stringSize_0f7a4_15 rfl hl (by decide) rfl (fun ls hl => ?_)
  refine lv_iload_n hx hb dJ6_stringSize_0f7a4_16 rfl (lv_at hl 0 rfl) ?_
  refine lv_bipush (v := 10) hx hb dJ6_stringSize_0f7a4_17 (by decide) ?_
  refine lv_icmp_ge (tgt := 42) hx hb dJ6_stringSize_0f7a4_19 (by decide) (fun hbr => absurd hbr (by decide)) (fun hbr => ?_)
  refine lv_iload_n hx hb dJ6_stringSize_0f7a4_22 rfl (lv_at hl 2 rfl) ?_
  refine lv_iload_n hx hb dJ6_stringSize_0f7a4_23 rfl (lv_at hl 1 rfl) ?_
  by_cases h10 : x < 10
  · refine lv_icmp_le (tgt := 31) hx hb dJ6_stringSize_0f7a4_24 (by decide) (fun hbr => absurd hbr (g2 h10)) (fun hbr => ?_)
    refine lv_iload_n hx hb dJ6_stringSize_0f7a4_27 rfl (lv_at hl 0 rfl) ?_
    refine lv_iload_n hx hb dJ6_stringSize_0f7a4_28 rfl (lv_at hl 3 rfl) ?_
    refine lv_iadd hx hb dJ6_stringSize_0f7a4_29 ?_
    exact l_iret hC hR hr rfl (by rw [if_pos h10]; decide) rfl dJ6_stringSize_0f7a4_30 (Nat.le_of_ble_eq_true rfl) (Nat.le_of_ble_eq_true rfl)
  · refine lv_icmp_le (tgt := 31) hx hb dJ6_stringSize_0f7a4_24 (by decide) (fun hbr => ?_) (fun hbr => absurd (g3 (by omega)) hbr)
    refine lv_bipush (v := 10) hx hb dJ6_stringSize_0f7a4_31 (by decide) ?_
    refine lv_iload_n hx hb dJ6_stringSize_0f7a4_33 rfl (lv_at hl 1 rfl) ?_
    refine lv_imul hx hb dJ6_stringSize_0f7a4_34 ?_
    refine l_eqi (x := ((10 : Int32) * (-10))) (y := -100) (by decide) ?_
    refine lv_istore_n (lv' := [(2, .int (-100)), (3, .int 1), (0, .int (-(nI x))), (1, .int 0)]) hx hb dJ6_stringSize_0f7a4_35 rfl hl (by decide) rfl (fun ls hl => ?_)
    refine lv_iinc (v := 2) (lv' := [(3, .int 2), (2, .int (-100)), (0, .int (-(nI x))), (1, .int 0)]) hx hb dJ6_stringSize_0f7a4_36 hl (k := 1) rfl (by decide) (by decide) rfl (fun ls hl => ?_)
    refine lv_goto (tgt := 16) hx hb dJ6_stringSize_0f7a4_39 (by decide) ?_
    refine lv_iload_n hx hb dJ6_stringSize_0f7a4_16 rfl (lv_at hl 0 rfl) ?_
    refine lv_bipush (v := 10) hx hb dJ6_stringSize_0f7a4_17 (by decide) ?_
    refine lv_icmp_ge (tgt := 42) hx hb dJ6_stringSize_0f7a4_19 (by decide) (fun hbr => absurd hbr (by decide)) (fun hbr => ?_)
    refine lv_iload_n hx hb dJ6_stringSize_0f7a4_22 rfl (lv_at hl 2 rfl) ?_
    refine lv_iload_n hx hb dJ6_stringSize_0f7a4_23 rfl (lv_at hl 1 rfl) ?_
    refine lv_icmp_le (tgt := 31) hx hb dJ6_stringSize_0f7a4_24 (by decide) (fun hbr => absurd hbr (g4)) (fun hbr => ?_)
    refine lv_iload_n hx hb dJ6_stringSize_0f7a4_27 rfl (lv_at hl 0 rfl) ?_
    refine lv_iload_n hx hb dJ6_stringSize_0f7a4_28 rfl (lv_at hl 3 rfl) ?_
    refine lv_iadd hx hb dJ6_stringSize_0f7a4_29 ?_
    exact l_iret hC hR hr rfl (by rw [if_neg h10]; decide) rfl dJ6_stringSize_0f7a4_30 (Nat.le_of_ble_eq_true rfl) (Nat.le_of_ble_eq_true rfl)
theorem qhd_B_getChars : yJ6_getChars_ba4f3.cls ≠ "java/lang/invoke/MethodHandle" ∧ yJ6_getChars_ba4f3.cls ≠ "java/lang/invoke/VarHandle" ∧ (parseMethodDescriptor yJ6_getChars_ba4f3.desc).map (fun d => d.parameters.length) = some 3 := ⟨by decide +kernel, by decide +kernel, by decide +kernel⟩
set_option maxHeartbeats 4000000 in
set_option maxRecDepth 100000 in
theorem mB_getChars {l : Launch} {D : va_G} {G : Nat → ClassId} {ad : Nat → Nat} (hJ : qInj ad) {v cap x k o1 o2 : Nat} {f : Nat → Int32} (hx9 : x < 100) (hk2 : 1 ≤ k) (hk3 : 10 ≤ x → 2 ≤ k) (hk : k ≤ cap) (hc : cap ≤ 130) : lCM l D G ad yJ6_getChars_ba4f3 (Cond.code yJ6_getChars_ba4f3 cJ6_getChars_ba4f3 7 (some .int)) 1 0 0 [.int (nI x), .int (nI k), .ref v] (lX [] [lby G v cap f] []) (lDg o1 o2) (fun st => lQi D (lX [] [lby G v cap f] []) (lX [] [lby G v cap (if x < 10 then upd f (k - 1) (nI (48 + x % 10)) else upd (upd f (k - 1) (nI (48 + x % 10))) (k - 2) (nI (48 + x / 10)))] []) st (nI (if x < 10 then k - 1 else k - 2))) := by
  refine l_start RJ6 rfl (by decide +kernel) hJ (fun a b h => by simp only [lQi, lQv, lQr, h]) (Nat.le_of_ble_eq_true rfl) ?_
  intro p e s m args below meth c ls hC hr hmi hE hR hl
  have hx := hC.1
  have hb := hC.2.1
  have hts := hC.2.2.2.2.1
  have hl : lv_has ls 7 [(0, .int (nI x)), (1, .int (nI k)), (2, .ref v)] := hl
  obtain ⟨g1, g2, g3, g4, g5, g6, g7, g8, g9⟩ := ls_neg x hx9
  obtain ⟨hd1, hd2⟩ := ls_dig x hx9
  obtain ⟨hz1, ht1, hz2, ht2⟩ := hE
  refine lv_iload_n hx hb dJ6_getChars_ba4f3_0 rfl (lv_at hl 1 rfl) ?_
  refine lv_istore (lv' := [(5, .int (nI k)), (0, .int (nI x)), (1, .int (nI k)), (2, .ref v)]) hx hb dJ6_getChars_ba4f3_1 hl (by decide) rfl (fun ls hl => ?_)
  refine lv_iload_n hx hb dJ6_getChars_ba4f3_3 rfl (lv_at hl 1 rfl) ?_
  refine lv_if_ge (tgt := 11) hx hb dJ6_getChars_ba4f3_4 (by decide) (fun hbr => ?_) (fun hbr => absurd (g5) hbr)
  refine lv_iconst (v := 0) hx hb dJ6_getChars_ba4f3_11 (by decide) ?_
  refine lv_istore (lv' := [(6, .int 0), (5, .int (nI k)), (0, .int (nI x)), (1, .int (nI k)), (2, .ref v)]) hx hb dJ6_getChars_ba4f3_12 hl (by decide) rfl (fun ls hl => ?_)
  refine lv_iload hx hb dJ6_getChars_ba4f3_14 (lv_at hl 0 rfl) ?_
  refine lv_if_ne (tgt := 22) hx hb dJ6_getChars_ba4f3_16 (by decide) (fun hbr => absurd (rfl) hbr) (fun hbr => ?_)
  refine lv_iload_n hx hb dJ6_getChars_ba4f3_19 rfl (lv_at hl 2 rfl) ?_
  refine lv_ineg hx hb dJ6_getChars_ba4f3_20 ?_
  refine lv_istore_n (lv' := [(0, .int (-(nI x))), (6, .int 0), (5, .int (nI k)), (1, .int (nI k)), (2, .ref v)]) hx hb dJ6_getChars_ba4f3_21 rfl hl (by decide) rfl (fun ls hl => ?_)
  refine lv_iload_n hx hb dJ6_getChars_ba4f3_22 rfl (lv_at hl 0 rfl) ?_
  refine lv_bipush (v := (-100)) hx hb dJ6_getChars_ba4f3_23 (by decide) ?_
  refine lv_icmp_gt (tgt := 72) hx hb dJ6_getChars_ba4f3_25 (by decide) (fun hbr => ?_) (fun hbr => absurd (g6) hbr)
  refine lv_aload_n hx hb dJ6_getChars_ba4f3_72 rfl (lv_at hl 4 rfl) ?_
  refine lv_iinc (v := nI (k - 1)) (lv' := [(5, .int (nI (k - 1))), (0, .int (-(nI x))), (6, .int 0), (1, .int (nI k)), (2, .ref v)]) hx hb dJ6_getChars_ba4f3_73 hl (k := 2) rfl (by rw [← sb_m1 (by omega)]; rfl) (by decide) rfl (fun ls hl => ?_)
  refine lv_iload hx hb dJ6_getChars_ba4f3_76 (lv_at hl 0 rfl) ?_
  refine l_getsq hC hR hz1 qk_1074 rfl dJ6_getChars_ba4f3_78 ?_
  refine lv_iload_n hx hb dJ6_getChars_ba4f3_81 rfl (lv_at hl 1 rfl) ?_
  refine lv_ineg hx hb dJ6_getChars_ba4f3_82 ?_
  refine l_eqi (x := (-(-(nI x)))) (y := nI x) (g9) ?_
  refine l_tb hC hR ht1 (vp_in_nI (by omega) (by omega)) (v := .int (nI (48 + x % 10))) (by show Value.int (nI (48 + (nI x).toNatClampNeg % 10)) = _; rw [nI_clamp (n := x) (by omega)]) dJ6_getChars_ba4f3_83 ?_
  refine l_bst hC hR 0 rfl (j := k - 1) (vp_in_nI (by omega) (by omega)) (nI_clamp (by omega)) (ls_byte _ hd1).2.1 dJ6_getChars_ba4f3_84 (fun H locs hR => ?_)
  have hR : lR D _ (lX [] [lby G v cap (upd f (k - 1) (nI (48 + x % 10)))] []) s H locs := hR
  refine lv_iload_n hx hb dJ6_getChars_ba4f3_85 rfl (lv_at hl 1 rfl) ?_
  refine lv_bipush (v := (-9)) hx hb dJ6_getChars_ba4f3_86 (by decide) ?_
  by_cases h10 : x < 10
  · refine lv_icmp_ge (tgt := 104) hx hb dJ6_getChars_ba4f3_88 (by decide) (fun hbr => ?_) (fun hbr => absurd (g7 h10) hbr)
    refine lv_iload hx hb dJ6_getChars_ba4f3_104 (lv_at hl 2 rfl) ?_
    refine lv_if_eq (tgt := 118) hx hb dJ6_getChars_ba4f3_106 (by decide) (fun hbr => ?_) (fun hbr => absurd (rfl) hbr)
    refine lv_iload hx hb dJ6_getChars_ba4f3_118 (lv_at hl 0 rfl) ?_
    exact l_iret hC hR hr rfl (by rw [if_pos h10]) (by rw [if_pos h10]) dJ6_getChars_ba4f3_120 (Nat.le_of_ble_eq_true rfl) (Nat.le_of_ble_eq_true rfl)
  · have hk4 := hk3 (by omega)
    refine lv_icmp_ge (tgt := 104) hx hb dJ6_getChars_ba4f3_88 (by decide) (fun hbr => absurd hbr (g8 (by omega))) (fun hbr => ?_)
    refine lv_aload_n hx hb dJ6_getChars_ba4f3_91 rfl (lv_at hl 4 rfl) ?_
    refine lv_iinc (v := nI (k - 2)) (lv' := [(5, .int (nI (k - 2))), (0, .int (-(nI x))), (6, .int 0), (1, .int (nI k)), (2, .ref v)]) hx hb dJ6_getChars_ba4f3_92 hl (k := 0) rfl (by have h := sb_m1 (p := k - 1) (by omega); rw [show k - 1 - 1 = k - 2 by omega] at h; rw [← h]; rfl) (by decide) rfl (fun ls hl => ?_)
    refine lv_iload hx hb dJ6_getChars_ba4f3_95 (lv_at hl 0 rfl) ?_
    refine l_getsq hC hR hz2 qk_1076 rfl dJ6_getChars_ba4f3_97 ?_
    refine lv_iload_n hx hb dJ6_getChars_ba4f3_100 rfl (lv_at hl 1 rfl) ?_
    refine lv_ineg hx hb dJ6_getChars_ba4f3_101 ?_
    refine l_eqi (x := (-(-(nI x)))) (y := nI x) (g9) ?_
    refine l_tb hC hR ht2 (vp_in_nI (by omega) (by omega)) (v := .int (nI (48 + x / 10))) (by show Value.int (nI (48 + (nI x).toNatClampNeg / 10)) = _; rw [nI_clamp (n := x) (by omega)]) dJ6_getChars_ba4f3_102 ?_
    refine l_bst hC hR 0 rfl (j := k - 2) (vp_in_nI (by omega) (by omega)) (nI_clamp (by omega)) (ls_byte _ hd2).2.1 dJ6_getChars_ba4f3_103 (fun H locs hR => ?_)
    have hR : lR D _ (lX [] [lby G v cap (upd (upd f (k - 1) (nI (48 + x % 10))) (k - 2) (nI (48 + x / 10)))] []) s H locs := hR
    refine lv_iload hx hb dJ6_getChars_ba4f3_104 (lv_at hl 2 rfl) ?_
    refine lv_if_eq (tgt := 118) hx hb dJ6_getChars_ba4f3_106 (by decide) (fun hbr => ?_) (fun hbr => absurd (rfl) hbr)
    refine lv_iload hx hb dJ6_getChars_ba4f3_118 (lv_at hl 0 rfl) ?_
    exact l_iret hC hR hr rfl (by rw [if_neg h10]) (by rw [if_neg h10]) dJ6_getChars_ba4f3_120 (Nat.le_of_ble_eq_true rfl) (Nat.le_of_ble_eq_true rfl)
theorem qhd_B_api5 : yJ5_append_c97b9.cls ≠ "java/lang/invoke/MethodHandle" ∧ yJ5_append_c97b9.cls ≠ "java/lang/invoke/VarHandle" ∧ (parseMethodDescriptor yJ5_append_c97b9.desc).map (fun d => d.parameters.length) = some 1 := ⟨by decide +kernel, by decide +kernel, by decide +kernel⟩
set_option maxHeartbeats 4000000 in
set_option maxRecDepth 100000 in
theorem mB_api5 {l : Launch} {D : va_G} {G : Nat → ClassId} {ad : Nat → Nat} (hJ : qInj ad) {b v cap n x o1 o2 : Nat} {f : Nat → Int32} (hx9 : x < 100) (hn : n + 2 ≤ 60) (hnc : n ≤ cap) (hc : cap ≤ 130) (hf : sb_Fit f) : lCM l D G ad yJ5_append_c97b9 (Cond.code yJ5_append_c97b9 cJ5_append_c97b9 4 (some (.object "java/lang/AbstractStringBuilder"))) 5 1 130 [.ref b, .int (nI x)] (lX [] [lob b v (nI n), lby G v cap f] []) (lDg o1 o2) (lQr (T := Nat × Nat × (Nat → Int32)) D ad (lX [] [lob b v (nI n), lby G v cap f] []) (fun u _ => lX [] [lob b u.1 (nI (n + (if x < 10 then 1 else 2))), lby G u.1 u.2.1 u.2.2] []) (fun u a => a = b ∧ u.2.1 = lcap (n + (if x < 10 then 1 else 2)) cap ∧ (∀ j, j < n → u.2.2 j = f j) ∧ (∀ j, j < (if x < 10 then 1 else 2) → u.2.2 (n + j) = if j + 1 = (if x < 10 then 1 else 2) then nI (48 + x % 10) else nI (48 + x / 10)) ∧ sb_Fit u.2.2) (fun _ _ _ _ _ => True)) := by
  refine l_start RJ5 rfl (by decide +kernel) hJ (fun a b h => by simp only [lQi, lQv, lQr, h]) (Nat.le_of_ble_eq_true rfl) ?_
  intro p e s m args below meth c ls hC hr hmi hE hR hl
  have hx := hC.1
  have hb := hC.2.1
  have hts := hC.2.2.2.2.1
  have hl : lv_has ls 4 [(0, .ref b), (1, .int (nI x))] := hl
  obtain ⟨hd1, hd2⟩ := ls_dig x hx9
  have hsz : (if x < 10 then 1 else 2) ≤ 2 ∧ 1 ≤ (if x < 10 then 1 else 2) := by split <;> omega
  refine lv_aload_n hx hb dJ5_append_c97b9_0 rfl (lv_at hl 0 rfl) ?_
  refine l_get (ref := "java/lang/AbstractStringBuilder") hC hR (lX_mx 0 rfl) (T := TJ4) (N := 4) (ci := 1) rfl qinJ4 3 (by decide) qkj_891 rfl rfl dJ5_append_c97b9_1 ?_
  refine lv_istore_n (lv' := [(2, .int (nI n)), (0, .ref b), (1, .int (nI x))]) hx hb dJ5_append_c97b9_4 rfl hl (by decide) rfl (fun ls hl => ?_)
  refine lv_iload_n hx hb dJ5_append_c97b9_5 rfl (lv_at hl 0 rfl) ?_
  refine lv_iload_n hx hb dJ5_append_c97b9_6 rfl (lv_at hl 2 rfl) ?_
  refine l_callSi hC hR (mB_ssize hJ hx9) lNo_k trivial lp_0 lp_0.symm qkj_1068 qkj_1069 qk_36 qkj_1070 qhd_B_ssize ⟨Nat.le_of_ble_eq_true rfl, Nat.le_of_ble_eq_true rfl⟩ hl.1 rfl (Nat.le_of_ble_eq_true rfl) dJ5_append_c97b9_7 ⟨Nat.le_of_ble_eq_true rfl, Nat.le_of_ble_eq_true rfl⟩ (fun H locs hR hkp => ?_)
  refine lv_iadd hx hb dJ5_append_c97b9_10 ?_
  refine l_eqi (x := ((nI n) + (nI (if x < 10 then 1 else 2)))) (y := nI (n + (if x < 10 then 1 else 2))) (nI_add _ _) ?_
  refine lv_istore_n (lv' := [(3, .int (nI (n + (if x < 10 then 1 else 2)))), (2, .int (nI n)), (0, .ref b), (1, .int (nI x))]) hx hb dJ5_append_c97b9_11 rfl hl (by decide) rfl (fun ls hl => ?_)
  refine lv_aload_n hx hb dJ5_append_c97b9_12 rfl (lv_at hl 2 rfl) ?_
  refine lv_iload_n hx hb dJ5_append_c97b9_13 rfl (lv_at hl 0 rfl) ?_
  refine l_callUv (C := RJ4) (x := yJ5_ensureCapacityInternal_d00df) hC hR (mB_ensure hJ (b := b) (v := v) (cap := cap) (q := n + (if x < 10 then 1 else 2)) (n := nI n) (f := f) (by omega) hc hf) lNo_k trivial lp_id (fun _ => lp_id1) (l_recv hC hR (lX_mx 0 rfl) (ci := 1) rfl) qkj_948 qkm_1347 (lsel_priv (x0 := yJ5_isLatin1_aae02) (hts _ qkj_984) rfl ⟨by decide, by decide⟩ (hC.2.2.2.2.2.2.2.2.2.2.2.2.2 _ (by decide)) (hts _ qkj_950)) qkj_950 qkj_38 qkj_951 rfl qhd_B_ensure ⟨Nat.le_of_ble_eq_true rfl, Nat.le_of_ble_eq_true rfl⟩ hl.1 rfl (Nat.le_of_ble_eq_true rfl) dJ5_append_c97b9_14 ⟨Nat.le_of_ble_eq_true rfl, Nat.le_of_ble_eq_true rfl⟩ (fun u H locs hY hR hkp => ?_)
  obtain ⟨v1, c1, f1⟩ := u
  obtain ⟨y1, y2, y3⟩ := hY
  dsimp only at y1 y2 y3 hR
  have hlc := lcap_b (q := n + (if x < 10 then 1 else 2)) (cap := cap) (by omega) hc
  rw [← y1] at hlc
  refine lv_aload_n hx hb dJ5_append_c97b9_17 rfl (lv_at hl 2 rfl) ?_
  refine l_callUi (C := RJ4) (x := yJ5_isLatin1_aae02) hC hR (mB_isLatin1 hJ (b := b) (v := v1) (n := nI n)) lNo_k trivial lp_O lp_O.symm (l_recv hC hR (lX_mx 0 rfl) (ci := 1) rfl) qkj_981 qkm_983 (hts _ qkj_984) qkj_982 qkj_38 qkj_985 rfl qhd_B_isLatin1 ⟨Nat.le_of_ble_eq_true rfl, Nat.le_of_ble_eq_true rfl⟩ hl.1 rfl (Nat.le_of_ble_eq_true rfl) dJ5_append_c97b9_18 ⟨Nat.le_of_ble_eq_true rfl, Nat.le_of_ble_eq_true rfl⟩ (fun H locs hR hkp => ?_)
  refine lv_if_eq (tgt := 37) hx hb dJ5_append_c97b9_21 (by decide) (fun hbr => absurd hbr (by decide)) (fun hbr => ?_)
  refine lv_iload_n hx hb dJ5_append_c97b9_24 rfl (lv_at hl 3 rfl) ?_
  refine lv_iload_n hx hb dJ5_append_c97b9_25 rfl (lv_at hl 0 rfl) ?_
  refine lv_aload_n hx hb dJ5_append_c97b9_26 rfl (lv_at hl 2 rfl) ?_
  refine l_get (ref := "java/lang/AbstractStringBuilder") hC hR (lX_mx 0 rfl) (T := TJ4) (N := 4) (ci := 1) rfl qinJ4 0 (by decide) qkj_888 rfl rfl dJ5_append_c97b9_27 ?_
  have hR := lR_pick hR [1, 0] (ex1 := [lby G v1 c1 f1, lob b v1 (nI n)]) (g1 := []) (by decide) rfl (Or.inl rfl)
  refine l_callSi hC hR (mB_getChars hJ (v := v1) (cap := c1) (x := x) (k := n + (if x < 10 then 1 else 2)) (f := f1) hx9 (by omega) (fun h9 => by rw [if_neg (by omega)]; omega) (by omega) (by omega)) lDg_k (l_now lDg_k hR hE) lp_O lp_O.symm qkj_1071 qkj_1072 qk_36 qkj_1073 qhd_B_getChars ⟨Nat.le_of_ble_eq_true rfl, Nat.le_of_ble_eq_true rfl⟩ hl.1 rfl (Nat.le_of_ble_eq_true rfl) dJ5_append_c97b9_30 ⟨Nat.le_of_ble_eq_true rfl, Nat.le_of_ble_eq_true rfl⟩ (fun H locs hR hkp => ?_)
  refine lv_pop hx hb dJ5_append_c97b9_33 rfl ?_
  refine lv_goto (tgt := 48) hx hb dJ5_append_c97b9_34 (by decide) ?_
  refine lv_aload_n hx hb dJ5_append_c97b9_48 rfl (lv_at hl 2 rfl) ?_
  refine lv_iload_n hx hb dJ5_append_c97b9_49 rfl (lv_at hl 0 rfl) ?_
  have hR := lR_pick hR [1, 0] (ex1 := [lob b v1 (nI n), lby G v1 c1 (if x < 10 then upd f1 (n + (if x < 10 then 1 else 2) - 1) (nI (48 + x % 10)) else upd (upd f1 (n + (if x < 10 then 1 else 2) - 1) (nI (48 + x % 10))) (n + (if x < 10 then 1 else 2) - 2) (nI (48 + x / 10)))]) (g1 := []) (by decide) rfl (Or.inl rfl)
  refine l_put (ref := "java/lang/AbstractStringBuilder") hC hR 0 rfl (T := TJ4) (N := 4) (ci := 1) (ty := .int) rfl qinJ4 tyJ4 tyJ4_ok nmJ4 3 (by decide) qkj_891 rfl rfl (by decide +kernel) rfl rfl (Nat.le_of_ble_eq_true rfl) dJ5_append_c97b9_50 (fun H locs hR => ?_)
  have hR : lR D _ (lX [] [lob b v1 (nI (n + (if x < 10 then 1 else 2))), lby G v1 c1 (if x < 10 then upd f1 (n + (if x < 10 then 1 else 2) - 1) (nI (48 + x % 10)) else upd (upd f1 (n + (if x < 10 then 1 else 2) - 1) (nI (48 + x % 10))) (n + (if x < 10 then 1 else 2) - 2) (nI (48 + x / 10)))] []) s H locs := hR
  refine lv_aload_n hx hb dJ5_append_c97b9_53 rfl (lv_at hl 2 rfl) ?_
  refine l_aret (T := Nat × Nat × (Nat → Int32)) (F := fun _ _ _ _ _ => True) (X1 := (fun u _ => lX [] [lob b u.1 (nI (n + (if x < 10 then 1 else 2))), lby G u.1 u.2.1 u.2.2] [])) (Y := (fun u a => a = b ∧ u.2.1 = lcap (n + (if x < 10 then 1 else 2)) cap ∧ (∀ j, j < n → u.2.2 j = f j) ∧ (∀ j, j < (if x < 10 then 1 else 2) → u.2.2 (n + j) = if j + 1 = (if x < 10 then 1 else 2) then nI (48 + x % 10) else nI (48 + x / 10)) ∧ sb_Fit u.2.2)) (v1, c1, (if x < 10 then upd f1 (n + (if x < 10 then 1 else 2) - 1) (nI (48 + x % 10)) else upd (upd f1 (n + (if x < 10 then 1 else 2) - 1) (nI (48 + x % 10))) (n + (if x < 10 then 1 else 2) - 2) (nI (48 + x / 10)))) hC hR hr (Or.inl ⟨_, rfl⟩) ⟨rfl, y1, fun j hj => ?_, fun j hj => ?_, ?_⟩ rfl (fun _ _ _ _ _ _ _ _ _ _ => trivial) trivial dJ5_append_c97b9_54 ?_ ?_
  · show (if x < 10 then upd f1 (n + (if x < 10 then 1 else 2) - 1) (nI (48 + x % 10)) else upd (upd f1 (n + (if x < 10 then 1 else 2) - 1) (nI (48 + x % 10))) (n + (if x < 10 then 1 else 2) - 2) (nI (48 + x / 10))) j = f j
    by_cases h10 : x < 10
    · simp only [if_pos h10]; rw [pk_un (by omega)]; exact y2 j (by omega)
    · simp only [if_neg h10]; rw [pk_un (by omega), pk_un (by omega)]; exact y2 j (by omega)
  · show (if x < 10 then upd f1 (n + (if x < 10 then 1 else 2) - 1) (nI (48 + x % 10)) else upd (upd f1 (n + (if x < 10 then 1 else 2) - 1) (nI (48 + x % 10))) (n + (if x < 10 then 1 else 2) - 2) (nI (48 + x / 10))) (n + j) = _
    by_cases h10 : x < 10
    · simp only [if_pos h10] at hj ⊢; rw [show n + j = n + 1 - 1 by omega, pk_us, if_pos (by omega)]
    · simp only [if_neg h10] at hj ⊢
      by_cases hj0 : j = 0
      · subst hj0; rw [show n + 0 = n + 2 - 2 by omega, pk_us, if_neg (by omega)]
      · rw [pk_un (by omega), show n + j = n + 2 - 1 by omega, pk_us, if_pos (by omega)]
  · show sb_Fit (if x < 10 then upd f1 (n + (if x < 10 then 1 else 2) - 1) (nI (48 + x % 10)) else upd (upd f1 (n + (if x < 10 then 1 else 2) - 1) (nI (48 + x % 10))) (n + (if x < 10 then 1 else 2) - 2) (nI (48 + x / 10)))
    split
    · exact sb_fitU y3 (ls_byte _ hd1).2.2.1
    · exact sb_fitU (sb_fitU y3 (ls_byte _ hd1).2.2.1) (ls_byte _ hd2).2.2.1
  · exact Nat.le_of_ble_eq_true rfl
  · exact Nat.le_of_ble_eq_true rfl
theorem qhd_B_api : yJ4_append_bf812.cls ≠ "java/lang/invoke/MethodHandle" ∧ yJ4_append_bf812.cls ≠ "java/lang/invoke/VarHandle" ∧ (parseMethodDescriptor yJ4_append_bf812.desc).map (fun d => d.parameters.length) = some 1 := ⟨by decide +kernel, by decide +kernel, by decide +kernel⟩
set_option maxHeartbeats 4000000 in
set_option maxRecDepth 100000 in
theorem mB_api {l : Launch} {D : va_G} {G : Nat → ClassId} {ad : Nat → Nat} (hJ : qInj ad) {b v cap n x o1 o2 : Nat} {f : Nat → Int32} (hx9 : x < 100) (hn : n + 2 ≤ 60) (hnc : n ≤ cap) (hc : cap ≤ 130) (hf : sb_Fit f) : lCM l D G ad yJ4_append_bf812 (Cond.code yJ4_append_bf812 cJ4_append_bf812 2 (some (.object "java/lang/StringBuilder"))) 6 1 130 [.ref b, .int (nI x)] (lX [] [lob b v (nI n), lby G v cap f] []) (lDg o1 o2) (lQr (T := Nat × Nat × (Nat → Int32)) D ad (lX [] [lob b v (nI n), lby G v cap f] []) (fun u _ => lX [] [lob b u.1 (nI (n + (if x < 10 then 1 else 2))), lby G u.1 u.2.1 u.2.2] []) (fun u a => a = b ∧ u.2.1 = lcap (n + (if x < 10 then 1 else 2)) cap ∧ (∀ j, j < n → u.2.2 j = f j) ∧ (∀ j, j < (if x < 10 then 1 else 2) → u.2.2 (n + j) = if j + 1 = (if x < 10 then 1 else 2) then nI (48 + x % 10) else nI (48 + x / 10)) ∧ sb_Fit u.2.2) (fun _ _ _ _ _ => True)) := by
  refine l_start RJ4 rfl (by decide +kernel) hJ (fun a b h => by simp only [lQi, lQv, lQr, h]) (Nat.le_of_ble_eq_true rfl) ?_
  intro p e s m args below meth c ls hC hr hmi hE hR hl
  have hx := hC.1
  have hb := hC.2.1
  have hts := hC.2.2.2.2.1
  have hl : lv_has ls 2 [(0, .ref b), (1, .int (nI x))] := hl
  refine lv_aload_n hx hb dJ4_append_bf812_0 rfl (lv_at hl 0 rfl) ?_
  refine lv_iload_n hx hb dJ4_append_bf812_1 rfl (lv_at hl 1 rfl) ?_
  refine l_callSUr (C := RJ4) hC hR (mB_api5 hJ (v := v) (cap := cap) (f := f) hx9 hn hnc hc hf) lDg_k (l_now lDg_k hR hE) lp_id (fun _ _ => lp_id1) (l_recv hC hR (lX_mx 0 rfl) (ci := 1) rfl) ⟨_, (hC.2.2.2.2.2.2.1.1 1 _ rfl).2⟩ qkj_1065 qkm_1354 qkm_900 qkj_1066 qkj_38 qkj_1067 ⟨by decide, qhd_B_api5.2.2⟩ ⟨Nat.le_of_ble_eq_true rfl, Nat.le_of_ble_eq_true rfl⟩ hl.1 rfl (Nat.le_of_ble_eq_true rfl) dJ4_append_bf812_2 ⟨Nat.le_of_ble_eq_true rfl, Nat.le_of_ble_eq_true rfl⟩ (fun _ _ => lNo_k) (fun u a1 H locs hY hR hkp _ => ?_)
  refine lv_pop hx hb dJ4_append_bf812_5 rfl ?_
  refine lv_aload_n hx hb dJ4_append_bf812_6 rfl (lv_at hl 0 rfl) ?_
  refine l_aret (T := Nat × Nat × (Nat → Int32)) (F := fun _ _ _ _ _ => True) (X1 := (fun u _ => lX [] [lob b u.1 (nI (n + (if x < 10 then 1 else 2))), lby G u.1 u.2.1 u.2.2] [])) (Y := (fun u a => a = b ∧ u.2.1 = lcap (n + (if x < 10 then 1 else 2)) cap ∧ (∀ j, j < n → u.2.2 j = f j) ∧ (∀ j, j < (if x < 10 then 1 else 2) → u.2.2 (n + j) = if j + 1 = (if x < 10 then 1 else 2) then nI (48 + x % 10) else nI (48 + x / 10)) ∧ sb_Fit u.2.2)) u hC hR hr (Or.inl ⟨_, rfl⟩) ⟨rfl, hY.2⟩ rfl (fun _ _ _ _ _ _ _ _ _ _ => trivial) trivial dJ4_append_bf812_7 ?_ ?_ <;> omega
theorem qhd_B_init5 : yJ5_init_d00df.cls ≠ "java/lang/invoke/MethodHandle" ∧ yJ5_init_d00df.cls ≠ "java/lang/invoke/VarHandle" ∧ (parseMethodDescriptor yJ5_init_d00df.desc).map (fun d => d.parameters.length) = some 1 := ⟨by decide +kernel, by decide +kernel, by decide +kernel⟩
set_option maxHeartbeats 4000000 in
set_option maxRecDepth 100000 in
theorem mB_init5 {l : Launch} {D : va_G} {G : Nat → ClassId} {ad : Nat → Nat} (hJ : qInj ad) {b : Nat} : lCM l D G ad yJ5_init_d00df (Cond.code yJ5_init_d00df cJ5_init_d00df 2 (none)) 1 1 16 [.ref b, .int 16] (lX [] [(b, .inr (1, [.null, .int 0, .int 0, .int 0]))] []) (fun _ _ _ => True) (lQv (T := Nat) D ad (lX [] [(b, .inr (1, [.null, .int 0, .int 0, .int 0]))] []) (fun u => lX [] [lob b u 0, lby G u 16 (fun _ => 0)] []) (fun _ => True)) := by
  refine l_start RJ5 rfl (by decide +kernel) hJ (fun a b h => by simp only [lQi, lQv, lQr, h]) (Nat.le_of_ble_eq_true rfl) ?_
  intro p e s m args below meth c ls hC hr hmi hE hR hl
  have hx := hC.1
  have hb := hC.2.1
  have hts := hC.2.2.2.2.1
  have hl : lv_has ls 2 [(0, .ref b), (1, .int 16)] := hl
  refine lv_aload_n hx hb dJ5_init_d00df_0 rfl (lv_at hl 0 rfl) ?_
  refine W.objInit hx hb hC.2.2.2.1 (hts _ qkj_878) (hts _ qk_56) (hts _ qkm_57) rfl (by rw [hC.2.2.1]; exact hl.1) rfl dJ5_init_d00df_1 (Nat.le_of_ble_eq_true rfl) (Nat.le_of_ble_eq_true rfl) ?_
  refine W.eq (g2 := F0 m 4 ls []) rfl ?_
  refine l_compact hC hR qkj_879 dJ5_init_d00df_4 ?_
  refine lv_if_eq (tgt := 25) hx hb dJ5_init_d00df_7 (by decide) (fun hbr => absurd hbr (by decide)) (fun hbr => ?_)
  refine lv_aload_n hx hb dJ5_init_d00df_10 rfl (lv_at hl 0 rfl) ?_
  refine lv_iload_n hx hb dJ5_init_d00df_11 rfl (lv_at hl 1 rfl) ?_
  refine l_newa (atype := .byte) hC hR (t := 5) (N := 16) (E := .inl (fun _ => 0)) rfl qka_byte rfl (fun cA => rfl) (by decide) (by decide) (by decide) (by show _ ≤ 1; omega) (by show _ ≤ 16; omega) dJ5_init_d00df_12 (fun u H hR hkp => ?_)
  refine l_put (ref := "java/lang/AbstractStringBuilder") hC hR 1 rfl (T := TJ4) (N := 4) (ci := 1) (ty := .array .byte) rfl qinJ4 tyJ4 tyJ4_ok nmJ4 0 (by decide) qkj_888 rfl rfl (by decide +kernel) rfl rfl (Nat.le_of_ble_eq_true rfl) dJ5_init_d00df_14 (fun H locs hR => ?_)
  have hR : lR D _ (lX [] [lby G u 16 (fun _ => 0), lob b u 0] []) s H locs := hR
  refine lv_aload_n hx hb dJ5_init_d00df_17 rfl (lv_at hl 0 rfl) ?_
  refine lv_iconst (v := 0) hx hb dJ5_init_d00df_18 (by decide) ?_
  refine l_put (ref := "java/lang/AbstractStringBuilder") hC hR 1 rfl (T := TJ4) (N := 4) (ci := 1) (ty := .byte) rfl qinJ4 tyJ4 tyJ4_ok nmJ4 1 (by decide) qkj_889 rfl rfl (by decide +kernel) rfl rfl (Nat.le_of_ble_eq_true rfl) dJ5_init_d00df_19 (fun H locs hR => ?_)
  have hR : lR D _ (lX [] [lby G u 16 (fun _ => 0), lob b u 0] []) s H locs := hR
  refine lv_goto (tgt := 38) hx hb dJ5_init_d00df_22 (by decide) ?_
  have hR := lR_pick hR [1, 0] (ex1 := [lob b u 0, lby G u 16 (fun _ => 0)]) (g1 := []) (by decide) rfl (Or.inl rfl)
  exact l_vret (T := Nat) (X1 := fun u => lX [] [lob b u 0, lby G u 16 (fun _ => 0)] []) (Y := fun _ => True) u hC hR hr trivial rfl dJ5_init_d00df_38 (Nat.le_of_ble_eq_true rfl) (Nat.le_of_ble_eq_true rfl)
theorem qhd_B_init : yJ4_init_da8c8.cls ≠ "java/lang/invoke/MethodHandle" ∧ yJ4_init_da8c8.cls ≠ "java/lang/invoke/VarHandle" ∧ (parseMethodDescriptor yJ4_init_da8c8.desc).map (fun d => d.parameters.length) = some 0 := ⟨by decide +kernel, by decide +kernel, by decide +kernel⟩
set_option maxHeartbeats 4000000 in
set_option maxRecDepth 100000 in
theorem mB_init {l : Launch} {D : va_G} {G : Nat → ClassId} {ad : Nat → Nat} (hJ : qInj ad) {b : Nat} : lCM l D G ad yJ4_init_da8c8 (Cond.code yJ4_init_da8c8 cJ4_init_da8c8 1 (none)) 2 1 16 [.ref b] (lX [] [(b, .inr (1, [.null, .int 0, .int 0, .int 0]))] []) (fun _ _ _ => True) (lQv (T := Nat) D ad (lX [] [(b, .inr (1, [.null, .int 0, .int 0, .int 0]))] []) (fun u => lX [] [lob b u 0, lby G u 16 (fun _ => 0)] []) (fun _ => True)) := by
  refine l_start RJ4 rfl (by decide +kernel) hJ (fun a b h => by simp only [lQi, lQv, lQr, h]) (Nat.le_of_ble_eq_true rfl) ?_
  intro p e s m args below meth c ls hC hr hmi hE hR hl
  have hx := hC.1
  have hb := hC.2.1
  have hts := hC.2.2.2.2.1
  have hl : lv_has ls 1 [(0, .ref b)] := hl
  refine lv_aload_n hx hb dJ4_init_da8c8_0 rfl (lv_at hl 0 rfl) ?_
  refine lv_bipush (v := 16) hx hb dJ4_init_da8c8_1 (by decide) ?_
  refine l_callIv hC hR (mB_init5 hJ (b := b)) lNo_k trivial lp_id (fun _ => lp_id1) qkj_875 qkj_876 rfl qkj_38 qkj_877 qhd_B_init5 ⟨Nat.le_of_ble_eq_true rfl, Nat.le_of_ble_eq_true rfl⟩ hl.1 rfl (Nat.le_of_ble_eq_true rfl) dJ4_init_da8c8_3 ⟨Nat.le_of_ble_eq_true rfl, Nat.le_of_ble_eq_true rfl⟩ (fun u H locs _ hR hkp => ?_)
  exact l_vret (T := Nat) (X1 := fun u => lX [] [lob b u 0, lby G u 16 (fun _ => 0)] []) (Y := fun _ => True) u hC hR hr trivial rfl dJ4_init_da8c8_6 (Nat.le_of_ble_eq_true rfl) (Nat.le_of_ble_eq_true rfl)
theorem qhd_B_checkLength : yJ7_checkLength_df160.cls ≠ "java/lang/invoke/MethodHandle" ∧ yJ7_checkLength_df160.cls ≠ "java/lang/invoke/VarHandle" ∧ (parseMethodDescriptor yJ7_checkLength_df160.desc).map (fun d => d.parameters.length) = some 2 := ⟨by decide +kernel, by decide +kernel, by decide +kernel⟩
set_option maxHeartbeats 4000000 in
set_option maxRecDepth 100000 in
theorem mB_checkLength {l : Launch} {D : va_G} {G : Nat → ClassId} {ad : Nat → Nat} (hJ : qInj ad) {n : Nat} (hn : n ≤ 60) : lCM l D G ad yJ7_checkLength_df160 (Cond.code yJ7_checkLength_df160 cJ7_checkLength_df160 2 (none)) 1 0 0 [.int 0, .int (nI n)] (lX [] [] []) (fun _ _ _ => True) (lQv (T := Unit) D ad (lX [] [] []) (fun _ => lX [] [] []) (fun _ => True)) := by
  refine l_start RJ7 rfl (by decide +kernel) hJ (fun a b h => by simp only [lQi, lQv, lQr, h]) (Nat.le_of_ble_eq_true rfl) ?_
  intro p e s m args below meth c ls hC hr hmi hE hR hl
  have hx := hC.1
  have hb := hC.2.1
  have hts := hC.2.2.2.2.1
  have hl : lv_has ls 2 [(0, .int 0), (1, .int (nI n))] := hl
  refine lv_iload_n hx hb dJ7_checkLength_df160_0 rfl (lv_at hl 1 rfl) ?_
  refine lv_iload_n hx hb dJ7_checkLength_df160_1 rfl (lv_at hl 0 rfl) ?_
  refine lv_icmp_ge (tgt := 37) hx hb dJ7_checkLength_df160_2 (by decide) (fun hbr => ?_) (fun hbr => absurd (nI_pos' (by omega)) hbr)
  exact l_vret (X1 := fun (_ : Unit) => lX [] [] []) () hC hR hr trivial rfl dJ7_checkLength_df160_37 (Nat.le_of_ble_eq_true rfl) (Nat.le_of_ble_eq_true rfl)
theorem qhd_B_copyRB : yJ7_copyOfRangeByte_39247.cls ≠ "java/lang/invoke/MethodHandle" ∧ yJ7_copyOfRangeByte_39247.cls ≠ "java/lang/invoke/VarHandle" ∧ (parseMethodDescriptor yJ7_copyOfRangeByte_39247.desc).map (fun d => d.parameters.length) = some 3 := ⟨by decide +kernel, by decide +kernel, by decide +kernel⟩
set_option maxHeartbeats 4000000 in
set_option maxRecDepth 100000 in
theorem mB_copyRB {l : Launch} {D : va_G} {G : Nat → ClassId} {ad : Nat → Nat} (hJ : qInj ad) {v cap n : Nat} {f : Nat → Int32} (hn : n ≤ 60) (hnc : n ≤ cap) (hc : cap ≤ 130) (hf : sb_Fit f) : lCM l D G ad yJ7_copyOfRangeByte_39247 (Cond.code yJ7_copyOfRangeByte_39247 cJ7_copyOfRangeByte_39247 5 (some (.array .byte))) 2 1 60 [.ref v, .int 0, .int (nI n)] (lX [] [lby G v cap f] []) (fun _ _ _ => True) (lQr (T := Unit) D ad (lX [] [lby G v cap f] []) (fun (_ : Unit) (a : Nat) => lX [] [lby G a n (va_cpy f (fun _ => 0) 0 0 n), lby G v cap f] []) (fun _ _ => True) (fun _ _ _ _ _ => True)) := by
  refine l_start RJ7 rfl (by decide +kernel) hJ (fun a b h => by simp only [lQi, lQv, lQr, h]) (Nat.le_of_ble_eq_true rfl) ?_
  intro p e s m args below meth c ls hC hr hmi hE hR hl
  have hx := hC.1
  have hb := hC.2.1
  have hts := hC.2.2.2.2.1
  have hl : lv_has ls 5 [(0, .ref v), (1, .int 0), (2, .int (nI n))] := hl
  refine lv_iload_n hx hb dJ7_copyOfRangeByte_39247_0 rfl (lv_at hl 1 rfl) ?_
  refine lv_iload_n hx hb dJ7_copyOfRangeByte_39247_1 rfl (lv_at hl 2 rfl) ?_
  refine l_callSv hC hR (mB_checkLength hJ (n := n) hn) lNo_k trivial lp_0 (fun _ => lp_0.symm) qkj_1119 qkj_1120 qkj_44 qkj_1121 qhd_B_checkLength ⟨Nat.le_of_ble_eq_true rfl, Nat.le_of_ble_eq_true rfl⟩ hl.1 rfl (Nat.le_of_ble_eq_true rfl) dJ7_copyOfRangeByte_39247_2 ⟨Nat.le_of_ble_eq_true rfl, Nat.le_of_ble_eq_true rfl⟩ (fun _ H locs _ hR hkp => ?_)
  refine lv_iload_n hx hb dJ7_copyOfRangeByte_39247_5 rfl (lv_at hl 2 rfl) ?_
  refine lv_iload_n hx hb dJ7_copyOfRangeByte_39247_6 rfl (lv_at hl 1 rfl) ?_
  refine lv_isub hx hb dJ7_copyOfRangeByte_39247_7 ?_
  refine l_eqi (x := ((nI n) - 0)) (y := nI n) (Int32.sub_zero _) ?_
  refine lv_istore_n (lv' := [(3, .int (nI n)), (0, .ref v), (1, .int 0), (2, .int (nI n))]) hx hb dJ7_copyOfRangeByte_39247_8 rfl hl (by decide) rfl (fun ls hl => ?_)
  refine lv_iload_n hx hb dJ7_copyOfRangeByte_39247_9 rfl (lv_at hl 0 rfl) ?_
  refine l_newa (atype := .byte) hC hR (t := 5) (N := n) (E := .inl (fun _ => 0)) rfl qka_byte rfl (fun cA => rfl) (nI_pos (by omega)) (nI_clamp (by omega)) (by show n * 1 ≤ 536870912; omega) (by show _ ≤ 1; omega) (by show _ ≤ 60; omega) dJ7_copyOfRangeByte_39247_10 (fun u H hR hkp => ?_)
  refine lv_astore (lv' := [(4, .ref u), (3, .int (nI n)), (0, .ref v), (1, .int 0), (2, .int (nI n))]) hx hb dJ7_copyOfRangeByte_39247_12 hl (by decide) rfl (fun ls hl => ?_)
  refine lv_aload_n hx hb dJ7_copyOfRangeByte_39247_14 rfl (lv_at hl 2 rfl) ?_
  refine lv_iload_n hx hb dJ7_copyOfRangeByte_39247_15 rfl (lv_at hl 3 rfl) ?_
  refine lv_aload hx hb dJ7_copyOfRangeByte_39247_16 (lv_at hl 0 rfl) ?_
  refine lv_iconst (v := 0) hx hb dJ7_copyOfRangeByte_39247_18 (by decide) ?_
  refine lv_aload_n hx hb dJ7_copyOfRangeByte_39247_19 rfl (lv_at hl 2 rfl) ?_
  refine l_alen hC hR (lX_mx 1 rfl) (t := 5) rfl rfl dJ7_copyOfRangeByte_39247_20 ?_
  refine lv_iload_n hx hb dJ7_copyOfRangeByte_39247_21 rfl (lv_at hl 3 rfl) ?_
  refine lv_isub hx hb dJ7_copyOfRangeByte_39247_22 ?_
  refine l_eqi (x := ((Int32.ofNat cap) - 0)) (y := nI cap) (Int32.sub_zero _) ?_
  refine lv_iload_n hx hb dJ7_copyOfRangeByte_39247_23 rfl (lv_at hl 1 rfl) ?_
  refine va_mmin hx hb (hC.2.2.1.trans hl.1.symm) hC.2.2.2.1 (hts _ qkj_975) (hts _ qkj_976) (hts _ qk_25) (hts _ qkj_977) (Nat.le_of_ble_eq_true rfl) (Nat.le_of_ble_eq_true rfl) (by show _ ≤ 1; omega) (by show _ ≤ 60; omega) dJ7_copyOfRangeByte_39247_24 ?_
  refine l_eqi (x := (if nI n < nI cap then nI n else nI cap)) (y := nI n) (ls_min hnc (by omega)) ?_
  refine l_cpy hC hR 1 0 rfl rfl (by decide) (by decide) (nI_pos (by omega)) (by rw [nI_clamp (n := n) (by omega), sb_cl0]; omega) (by rw [nI_clamp (n := n) (by omega), sb_cl0]; omega) hf qkj_978 hl.1 (Nat.le_of_ble_eq_true rfl) (Nat.le_of_ble_eq_true rfl) dJ7_copyOfRangeByte_39247_27 (fun H locs hR => ?_)
  rw [nI_clamp (n := n) (by omega), sb_cl0] at hR
  have hR : lR D _ (lX [] [lby G u n (va_cpy f (fun _ => 0) 0 0 n), lby G v cap f] []) s H locs := hR
  refine lv_aload hx hb dJ7_copyOfRangeByte_39247_30 (lv_at hl 0 rfl) ?_
  refine l_aret (T := Unit) (F := fun _ _ _ _ _ => True) (X1 := (fun (_ : Unit) (a : Nat) => lX [] [lby G a n (va_cpy f (fun _ => 0) 0 0 n), lby G v cap f] [])) (Y := fun _ _ => True) () hC hR hr (Or.inr ⟨_, rfl⟩) trivial rfl (fun _ _ _ _ _ _ _ _ _ _ => trivial) trivial dJ7_copyOfRangeByte_39247_32 ?_ ?_ <;> omega
theorem qhd_B_copyR : yJ7_copyOfRange_39247.cls ≠ "java/lang/invoke/MethodHandle" ∧ yJ7_copyOfRange_39247.cls ≠ "java/lang/invoke/VarHandle" ∧ (parseMethodDescriptor yJ7_copyOfRange_39247.desc).map (fun d => d.parameters.length) = some 3 := ⟨by decide +kernel, by decide +kernel, by decide +kernel⟩
set_option maxHeartbeats 4000000 in
set_option maxRecDepth 100000 in
theorem mB_copyR {l : Launch} {D : va_G} {G : Nat → ClassId} {ad : Nat → Nat} (hJ : qInj ad) {v cap n : Nat} {f : Nat → Int32} (hn : n ≤ 60) (hnc : n ≤ cap) (hc : cap ≤ 130) (hf : sb_Fit f) : lCM l D G ad yJ7_copyOfRange_39247 (Cond.code yJ7_copyOfRange_39247 cJ7_copyOfRange_39247 3 (some (.array .byte))) 3 1 60 [.ref v, .int 0, .int (nI n)] (lX [] [lby G v cap f] []) (fun _ _ _ => True) (lQr (T := Nat → Int32) D ad (lX [] [lby G v cap f] []) (fun (u : Nat → Int32) (a : Nat) => lX [] [lby G a n u, lby G v cap f] []) (fun (u : Nat → Int32) (_ : Nat) => ∀ j, j < n → u j = f j) (fun _ _ _ _ _ => True)) := by
  refine l_start RJ7 rfl (by decide +kernel) hJ (fun a b h => by simp only [lQi, lQv, lQr, h]) (Nat.le_of_ble_eq_true rfl) ?_
  intro p e s m args below meth c ls hC hr hmi hE hR hl
  have hx := hC.1
  have hb := hC.2.1
  have hts := hC.2.2.2.2.1
  have hl : lv_has ls 3 [(0, .ref v), (1, .int 0), (2, .int (nI n))] := hl
  refine lv_iload_n hx hb dJ7_copyOfRange_39247_0 rfl (lv_at hl 1 rfl) ?_
  refine lv_if_ne (tgt := 10) hx hb dJ7_copyOfRange_39247_1 (by decide) (fun hbr => absurd (rfl) hbr) (fun hbr => ?_)
  refine lv_iload_n hx hb dJ7_copyOfRange_39247_4 rfl (lv_at hl 2 rfl) ?_
  refine lv_aload_n hx hb dJ7_copyOfRange_39247_5 rfl (lv_at hl 0 rfl) ?_
  refine l_alen hC hR (lX_mx 0 rfl) (t := 5) rfl rfl dJ7_copyOfRange_39247_6 ?_
  by_cases hnc2 : n = cap
  · refine lv_icmp_eq (tgt := 17) hx hb dJ7_copyOfRange_39247_7 (by decide) (fun hbr => ?_) (fun hbr => absurd (by rw [hnc2]; rfl) hbr)
    refine lv_aload_n hx hb dJ7_copyOfRange_39247_17 rfl (lv_at hl 0 rfl) ?_
    subst hnc2
    have hB5 : s.vm.findClass "[B" = some (G 5) := (hC.2.2.2.2.2.2.1.2 5 _ rfl).2
    refine va_clone (ty := .byte) (x := (n, .inl f)) (cA := G 5) hx hb (hC.2.2.1.trans hl.1.symm) hC.2.2.2.1 (hts _ qkm_968) (hts _ qkm_969) (hts _ qkm_970) (hts _ qk_971) (hts _ qk_972) (hC.2.2.2.2.2.2.2.2.1.2.2.2.2 _ lclo_w) hC.2.2.2.2.2.2.1 hR.1 hR.2.1 hR.2.2 (fun q h => Or.inr h) 0 5 rfl rfl hB5 (lclo_f hf) (Nat.le_of_ble_eq_true rfl) (Nat.le_of_ble_eq_true rfl) (by show _ ≤ 1; omega) (by show _ ≤ 60; simp only []; omega) dJ7_copyOfRange_39247_18 (fun u H hK9 hP9 hD9 hS9 => ?_)
    have hR : lR D _ (lX [] [lby G u n f, lby G v n f] []) s H [] := lR_perm ⟨hP9, hD9, hS9⟩ lX_push
    refine va_castA hx hb hC.2.2.2.1 (hts _ qkj_974) hR.1 0 rfl hB5 dJ7_copyOfRange_39247_21 ?_
    refine l_aret (T := Nat → Int32) (F := fun _ _ _ _ _ => True) (X1 := (fun (u : Nat → Int32) (a : Nat) => lX [] [lby G a n u, lby G v n f] [])) (Y := (fun (u : Nat → Int32) (_ : Nat) => ∀ j, j < n → u j = f j)) f hC hR hr (Or.inr ⟨_, rfl⟩) (fun _ _ => rfl) rfl (fun _ _ _ _ _ _ _ _ _ _ => trivial) trivial dJ7_copyOfRange_39247_24 ?_ ?_ <;> first | omega | (dsimp only; omega)
  · refine lv_icmp_eq (tgt := 17) hx hb dJ7_copyOfRange_39247_7 (by decide) (fun hbr => absurd hbr (fun z => hnc2 ((nI_eq (by omega) (by omega)).mp z))) (fun hbr => ?_)
    refine lv_aload_n hx hb dJ7_copyOfRange_39247_10 rfl (lv_at hl 0 rfl) ?_
    refine lv_iload_n hx hb dJ7_copyOfRange_39247_11 rfl (lv_at hl 1 rfl) ?_
    refine lv_iload_n hx hb dJ7_copyOfRange_39247_12 rfl (lv_at hl 2 rfl) ?_
    refine l_callSr hC hR (mB_copyRB hJ (v := v) (cap := cap) (n := n) (f := f) hn hnc hc hf) lNo_k trivial lp_id (fun _ _ => lp_id1) qkj_1116 qkj_1117 qkj_44 qkj_1118 qhd_B_copyRB ⟨Nat.le_of_ble_eq_true rfl, Nat.le_of_ble_eq_true rfl⟩ hl.1 rfl (Nat.le_of_ble_eq_true rfl) dJ7_copyOfRange_39247_13 ⟨Nat.le_of_ble_eq_true rfl, Nat.le_of_ble_eq_true rfl⟩ (fun _ _ => lNo_k) (fun _ u H locs _ hR hkp _ => ?_)
    refine l_aret (T := Nat → Int32) (F := fun _ _ _ _ _ => True) (X1 := (fun (u : Nat → Int32) (a : Nat) => lX [] [lby G a n u, lby G v cap f] [])) (Y := (fun (u : Nat → Int32) (_ : Nat) => ∀ j, j < n → u j = f j)) (va_cpy f (fun _ => 0) 0 0 n) hC hR hr (Or.inr ⟨_, rfl⟩) (fun j hj => by show va_cpy f (fun _ => 0) 0 0 n j = f j; exact sb_cpy0 hj) rfl (fun _ _ _ _ _ _ _ _ _ _ => trivial) trivial dJ7_copyOfRange_39247_16 ?_ ?_ <;> omega
