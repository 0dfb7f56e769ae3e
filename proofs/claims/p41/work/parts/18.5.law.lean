theorem l_eqi {p : Program} {l : Launch} {e : Env} {R : Room} {s : State} {m : MethodId} {args : Array Value} {below : List Frame} {meth : Method} {c : Code} {H : Heap} {locs : List Loc} {cells slots : Nat} {Q : State → Prop} {pc : Nat} {ls : Array Slot} {rest : List Value} {x y : Int32} (h : x = y) (k : W p l e R s m args below meth c H locs cells slots Q (F0 m pc ls (.int y :: rest))) : W p l e R s m args below meth c H locs cells slots Q (F0 m pc ls (.int x :: rest)) := by
  subst h
  exact k
def lcap (q cap : Nat) : Nat := if q ≤ cap then cap else cap + (if q - cap < cap + 2 then cap + 2 else q - cap)
theorem lcap_b {q cap : Nat} (hq : q ≤ 60) (hc : cap ≤ 130) : q ≤ lcap q cap ∧ cap ≤ lcap q cap ∧ lcap q cap ≤ 130 := by
  unfold lcap
  split
  · omega
  · split <;> omega
theorem lcap_g {q cap : Nat} (h : ¬ q ≤ cap) : cap + (if q - cap < cap + 2 then cap + 2 else q - cap) = lcap q cap := by
  unfold lcap
  rw [if_neg h]
theorem ls_neg : ∀ x, x < 100 → (¬ nI x < 0) ∧ (x < 10 → ¬ -nI x ≤ -10) ∧ (10 ≤ x → -nI x ≤ -10) ∧ (¬ -nI x ≤ -100) ∧ (0 : Int32) ≤ nI x ∧ (-100 : Int32) < -nI x ∧ (x < 10 → (-9 : Int32) ≤ -nI x) ∧ (10 ≤ x → ¬ (-9 : Int32) ≤ -nI x) ∧ -(-nI x) = nI x := by decide +kernel
theorem ls_byte : ∀ k, k < 128 → (nI k).toInt8.toInt32 = nI k ∧ vp_nar .byte (nI k) = nI k ∧ fits .byte (.int (nI k)) = true ∧ ¬ (255 : Int32) < nI k := by decide +kernel
theorem ls_dig : ∀ x, x < 100 → 48 + x % 10 < 128 ∧ 48 + x / 10 < 128 := fun x h => by omega
theorem lfit_t {t : List Int32} (h : qasc t = true) : sb_Fit (fun j => t.getD j 0) := fun j => by
  obtain ⟨k, hk, e⟩ := qasc_at h j
  show fits .byte (.int (t.getD j 0)) = true
  rw [e]
  exact (ls_byte k hk).2.2.1
theorem ls_max {k q : Nat} (hk : k < 2 ^ 31) (hq : q < 2 ^ 31) : (if nI k < nI q then nI q else nI k) = nI (if k < q then q else k) := by
  by_cases h : k < q
  · rw [if_pos h, if_pos (nI_lt h hq)]
  · rw [if_neg h, if_neg (nI_nlt (by omega) hk)]
/-- the rows of digits: what Integer's two tables hold -/
def lDg (o1 o2 : Nat) (A : Nat → Prop) (U : State) (H : Heap) : Prop := va_Z RJ6 "DigitOnes" "[B" (.ref o1) A U H ∧ va_T .byte o1 100 (fun j => .int (nI (48 + j % 10))) A U H ∧ va_Z RJ6 "DigitTens" "[B" (.ref o2) A U H ∧ va_T .byte o2 100 (fun j => .int (nI (48 + j / 10))) A U H
theorem lDg_k {o1 o2 : Nat} : qXk (lDg o1 o2) := fun A B s U H H1 h ha hq hAB => by
  obtain ⟨h1, h2, h3, h4⟩ := h
  exact ⟨va_Z.moved ha ((h1.kept hq).narrow hAB), va_T.moved ha ((h2.kept hq).narrow hAB), va_Z.moved ha ((h3.kept hq).narrow hAB), va_T.moved ha ((h4.kept hq).narrow hAB)⟩
theorem lp_id {X : va_W} : X.Perm (X ++ []) := by rw [List.append_nil]
theorem lp_id1 {X : va_W} : (X ++ []).Perm X := by rw [List.append_nil]
theorem lX_1 {x : Nat × va_E} : lX [] [x] [] = [x] := rfl
theorem lX_2 {x y : Nat × va_E} : lX [] [x, y] [] = [x, y] := rfl
section
variable {p : Program} {l : Launch} {e : Env} {R : Room} {s : State} {m : MethodId} {args : Array Value} {below : List Frame} {meth : Method} {c : Code} {H : Heap} {locs : List Loc} {cells slots : Nat} {Q : State → Prop} {pc nL : Nat} {ls : Array Slot} {rest : List Value} {cc : ByteArray} {own : String} {D : va_G} {G : Nat → ClassId} {ad : Nat → Nat} {X0 X : va_W}
theorem l_callOi {y : MethodName} {bytes : ByteArray} {maxL d mc ms index b : Nat} {ret : Option FieldType} {As st : List Value} {x : MethodName} {r : Int32} {X Xc Xr : va_W} {X1c : va_W} {X1 : va_W} {E : (Nat → Prop) → State → Heap → Prop} {C : String} (hC : lCx p c cc nL s m args meth own D G ad X0) (hR : lR D X0 X s H locs)
    (hM : lCM l D G ad y (Cond.code y bytes maxL ret) d mc ms (.ref b :: As) Xc E (fun st => lQi D Xc X1c st r)) (hXk : qXk E) (hE : E (lA ad X H.size) s H) (hp : X.Perm (Xc ++ Xr)) (hp1 : (X1c ++ Xr).Perm X1) (hrec : ∃ cell : Cell, H[b]? = some cell ∧ cell.vm.isStatics = false ∧ s.vm.findClass C = some cell.cls) (hlk : Cond.methodLink own index x ∈ lw_gd) (hsm : Cond.sameMethod x.cls x.cls x.name x.desc ∈ lw_gd) (hinx : Cond.instanceMethod x ∈ lw_gd) {b0 : ByteArray} {m0 : Nat} {r0 : Option FieldType} (hcx : Cond.code x b0 m0 r0 ∈ lw_gd) (hse : (Cond.selects C x y).before args s = true) (hin : Cond.instanceMethod y ∈ lw_gd) (hini : Cond.initialized y.cls ∈ lw_gd) (hcode : Cond.code y bytes maxL ret ∈ lw_gd) 
    (hd : x.cls ≠ "java/lang/invoke/MethodHandle" ∧ x.cls ≠ "java/lang/invoke/VarHandle" ∧ (parseMethodDescriptor x.desc).map (fun d => d.parameters.length) = some As.length) (hroom : d + 1 ≤ R.frames ∧ 8 + (maxL + 11) + 40 * d ≤ R.locals) (hsz : ls.size = nL) (hst : st = As.reverse ++ .ref b :: rest) (hcat : (rest.map fun v => v.category).sum ≤ 8) (hdg : decode cc pc = .ok (.invokevirtual index, 3)) (hf : cells + mc ≤ R.cells ∧ slots + ms ≤ R.slots)
    (kk : ∀ (H1 : Heap) (locs1 : List Loc), lR D X0 X1 s H1 locs1 → lKp ad X H X1 H1 → W p l e R s m args below meth c H1 locs1 (cells + mc) (slots + ms) Q (F0 m (pc + 3) ls (.int r :: rest))) : W p l e R s m args below meth c H locs cells slots Q (F0 m pc ls st) := by
  have hts := hC.2.2.2.2.1
  let sH : State := { s with heap := H }
  have hts2 : ∀ w ∈ Cond.selects C x y :: lw_gd, w.before args s = true := fun w hw => (List.mem_cons.mp hw).elim (fun h => h ▸ hse) (fun h => hts w h)
  have hgi : GoodIn (Cond.selects C x y :: lw_gd) (va_wsO own index C x.cls x y (Cond.code y bytes maxL ret :: lw_gd)) := fun w hw => by
    rcases List.mem_append.mp hw with h | h
    · simp only [List.mem_cons, List.mem_nil_iff, or_false] at h
      rcases h with rfl | rfl | rfl | rfl | rfl | rfl
      · exact ⟨List.mem_cons_of_mem _ hlk, good_of_word rfl⟩
      · exact ⟨List.mem_cons_of_mem _ hsm, good_of_word rfl⟩
      · exact ⟨List.mem_cons_of_mem _ hinx, good_of_word rfl⟩
      · exact ⟨List.mem_cons_self, good_of_word rfl⟩
      · exact ⟨List.mem_cons_of_mem _ hin, good_of_word rfl⟩
      · exact ⟨List.mem_cons_of_mem _ hini, good_of_word rfl⟩
    · exact ⟨List.mem_cons_of_mem _ (q_goodIn hcode w h).1, (q_goodIn hcode w h).2⟩
  have hcB : va_CU R s args own C x.cls index x y bytes maxL ret (Cond.code y bytes maxL ret :: lw_gd) (qrm d mc ms) mc ms As.length := va_cwO As.length hts2 hgi rfl rfl rfl (List.mem_cons_of_mem _ hcx) hd hroom
  have hA : ∀ q : Nat, va_A Xc H.size q → va_A X0 s.heap.size q := fun q hq => by
    rcases va_A_iff.mp hq with ⟨z, hz, rfl⟩ | hq
    · exact lD_in hR.2.1 z (hp.mem_iff.mpr (List.mem_append_left _ hz))
    · exact Or.inr (Nat.le_trans hR.2.2.1 hq)
  refine va_calli (va_runU (As := As) (rest := rest) (C := C) (Ts := lw_gd) ⟨hC.1, hC.2.1, hC.2.2.1, hC.2.2.2.1, hts⟩ (hM sH) hcB ⟨lE_blind hXk, hrec, fun U hU hW => ⟨rfl, l_pre hC hR hp hXk hE hU hW⟩⟩ rfl rfl hsz hst (lv_room hcat) hdg hf) hR.2.2 (fun q _ h => hA q h) hA (fun r1 u t H1 locs1 ht hvm hw hB hz1 hk1 hS1 => ?_)
  subst hw
  obtain ⟨hB, hD1⟩ := hB
  rw [ht] at hB
  obtain ⟨h1, h2⟩ := lR_join (ad := ad) hR hp hp1 hz1 hk1 hB hD1 hS1
  exact kk H1 locs1 h1 h2
end
theorem qhd_B_isLatin1 : yJ5_isLatin1_aae02.cls ≠ "java/lang/invoke/MethodHandle" ∧ yJ5_isLatin1_aae02.cls ≠ "java/lang/invoke/VarHandle" ∧ (parseMethodDescriptor yJ5_isLatin1_aae02.desc).map (fun d => d.parameters.length) = some 0 := ⟨by decide +kernel, by decide +kernel, by decide +kernel⟩
set_option maxHeartbeats 4000000 in
set_option maxRecDepth 100000 in
theorem mB_isLatin1 {l : Launch} {D : va_G} {G : Nat → ClassId} {ad : Nat → Nat} (hJ : qInj ad) {b v : Nat} {n : Int32} : lCM l D G ad yJ5_isLatin1_aae02 (Cond.code yJ5_isLatin1_aae02 cJ5_isLatin1_aae02 1 (some .boolean)) 1 0 0 [.ref b] (lX [] [lob b v n] []) (fun _ _ _ => True) (fun st => lQi D (lX [] [lob b v n] []) (lX [] [lob b v n] []) st 1) := by
  refine l_start RJ5 rfl (by decide +kernel) hJ (fun a b h => by simp only [lQi, lQv, lQr, h]) (Nat.le_of_ble_eq_true rfl) ?_
  intro p e s m args below meth c ls hC hr hmi hE hR hl
  have hx := hC.1
  have hb := hC.2.1
  have hts := hC.2.2.2.2.1
  have hl : lv_has ls 1 [(0, .ref b)] := hl
  refine l_compact hC hR qkj_879 dJ5_isLatin1_aae02_0 ?_
  refine lv_if_eq (tgt := 17) hx hb dJ5_isLatin1_aae02_3 (by decide) (fun hbr => absurd hbr (by decide)) (fun hbr => ?_)
  refine lv_aload_n hx hb dJ5_isLatin1_aae02_6 rfl (lv_at hl 0 rfl) ?_
  refine l_get (ref := "java/lang/AbstractStringBuilder") hC hR (lX_mx 0 rfl) (T := TJ4) (N := 4) (ci := 1) rfl qinJ4 1 (by decide) qkj_889 rfl rfl dJ5_isLatin1_aae02_7 ?_
  refine lv_if_ne (tgt := 17) hx hb dJ5_isLatin1_aae02_10 (by decide) (fun hbr => absurd (rfl) hbr) (fun hbr => ?_)
  refine lv_iconst (v := 1) hx hb dJ5_isLatin1_aae02_13 (by decide) ?_
  refine lv_goto (tgt := 18) hx hb dJ5_isLatin1_aae02_14 (by decide) ?_
  exact l_iret hC hR hr (by decide) rfl rfl dJ5_isLatin1_aae02_18 (Nat.le_of_ble_eq_true rfl) (Nat.le_of_ble_eq_true rfl)
theorem qhd_B_asblen : yJ5_length_8abf5.cls ≠ "java/lang/invoke/MethodHandle" ∧ yJ5_length_8abf5.cls ≠ "java/lang/invoke/VarHandle" ∧ (parseMethodDescriptor yJ5_length_8abf5.desc).map (fun d => d.parameters.length) = some 0 := ⟨by decide +kernel, by decide +kernel, by decide +kernel⟩
set_option maxHeartbeats 4000000 in
set_option maxRecDepth 100000 in
theorem mB_asblen {l : Launch} {D : va_G} {G : Nat → ClassId} {ad : Nat → Nat} (hJ : qInj ad) {b v : Nat} {n : Int32} : lCM l D G ad yJ5_length_8abf5 (Cond.code yJ5_length_8abf5 cJ5_length_8abf5 1 (some .int)) 1 0 0 [.ref b] (lX [] [lob b v n] []) (fun _ _ _ => True) (fun st => lQi D (lX [] [lob b v n] []) (lX [] [lob b v n] []) st n) := by
  refine l_start RJ5 rfl (by decide +kernel) hJ (fun a b h => by simp only [lQi, lQv, lQr, h]) (Nat.le_of_ble_eq_true rfl) ?_
  intro p e s m args below meth c ls hC hr hmi hE hR hl
  have hx := hC.1
  have hb := hC.2.1
  have hts := hC.2.2.2.2.1
  have hl : lv_has ls 1 [(0, .ref b)] := hl
  refine lv_aload_n hx hb dJ5_length_8abf5_0 rfl (lv_at hl 0 rfl) ?_
  refine l_get (ref := "java/lang/AbstractStringBuilder") hC hR (lX_mx 0 rfl) (T := TJ4) (N := 4) (ci := 1) rfl qinJ4 3 (by decide) qkj_891 rfl rfl dJ5_length_8abf5_1 ?_
  exact l_iret hC hR hr rfl rfl rfl dJ5_length_8abf5_4 (Nat.le_of_ble_eq_true rfl) (Nat.le_of_ble_eq_true rfl)
theorem qhd_B_sblen : yJ4_length_8abf5.cls ≠ "java/lang/invoke/MethodHandle" ∧ yJ4_length_8abf5.cls ≠ "java/lang/invoke/VarHandle" ∧ (parseMethodDescriptor yJ4_length_8abf5.desc).map (fun d => d.parameters.length) = some 0 := ⟨by decide +kernel, by decide +kernel, by decide +kernel⟩
set_option maxHeartbeats 4000000 in
set_option maxRecDepth 100000 in
theorem mB_sblen {l : Launch} {D : va_G} {G : Nat → ClassId} {ad : Nat → Nat} (hJ : qInj ad) {b v : Nat} {n : Int32} : lCM l D G ad yJ4_length_8abf5 (Cond.code yJ4_length_8abf5 cJ4_length_8abf5 1 (some .int)) 2 0 0 [.ref b] (lX [] [lob b v n] []) (fun _ _ _ => True) (fun st => lQi D (lX [] [lob b v n] []) (lX [] [lob b v n] []) st n) := by
  refine l_start RJ4 rfl (by decide +kernel) hJ (fun a b h => by simp only [lQi, lQv, lQr, h]) (Nat.le_of_ble_eq_true rfl) ?_
  intro p e s m args below meth c ls hC hr hmi hE hR hl
  have hx := hC.1
  have hb := hC.2.1
  have hts := hC.2.2.2.2.1
  have hl : lv_has ls 1 [(0, .ref b)] := hl
  refine lv_aload_n hx hb dJ4_length_8abf5_0 rfl (lv_at hl 0 rfl) ?_
  refine l_callSUi (C := RJ4) hC hR (mB_asblen hJ (b := b) (v := v) (n := n)) lNo_k trivial lp_id lp_id1 (l_recv hC hR (lX_mx 0 rfl) (ci := 1) rfl) ⟨_, (hC.2.2.2.2.2.2.1.1 1 _ rfl).2⟩ qkj_1110 qkm_1106 qkm_900 qkj_1105 qkj_38 qkj_1111 ⟨by decide, qhd_B_asblen.2.2⟩ ⟨Nat.le_of_ble_eq_true rfl, Nat.le_of_ble_eq_true rfl⟩ hl.1 rfl (Nat.le_of_ble_eq_true rfl) dJ4_length_8abf5_1 ⟨Nat.le_of_ble_eq_true rfl, Nat.le_of_ble_eq_true rfl⟩ (fun H locs hR hkp => ?_)
  exact l_iret hC hR hr rfl rfl rfl dJ4_length_8abf5_4 (Nat.le_of_ble_eq_true rfl) (Nat.le_of_ble_eq_true rfl)
theorem qhd_B_getValue : yJ5_getValue_6d5f1.cls ≠ "java/lang/invoke/MethodHandle" ∧ yJ5_getValue_6d5f1.cls ≠ "java/lang/invoke/VarHandle" ∧ (parseMethodDescriptor yJ5_getValue_6d5f1.desc).map (fun d => d.parameters.length) = some 0 := ⟨by decide +kernel, by decide +kernel, by decide +kernel⟩
set_option maxHeartbeats 4000000 in
set_option maxRecDepth 100000 in
theorem mB_getValue {l : Launch} {D : va_G} {G : Nat → ClassId} {ad : Nat → Nat} (hJ : qInj ad) {b v : Nat} {n : Int32} : lCM l D G ad yJ5_getValue_6d5f1 (Cond.code yJ5_getValue_6d5f1 cJ5_getValue_6d5f1 1 (some (.array .byte))) 1 0 0 [.ref b] (lX [] [lob b v n] []) (fun _ _ _ => True) (lQr (T := Unit) D ad (lX [] [lob b v n] []) (fun _ _ => lX [] [lob b v n] []) (fun _ a => a = v) (fun _ _ _ _ _ => True)) := by
  refine l_start RJ5 rfl (by decide +kernel) hJ (fun a b h => by simp only [lQi, lQv, lQr, h]) (Nat.le_of_ble_eq_true rfl) ?_
  intro p e s m args below meth c ls hC hr hmi hE hR hl
  have hx := hC.1
  have hb := hC.2.1
  have hts := hC.2.2.2.2.1
  have hl : lv_has ls 1 [(0, .ref b)] := hl
  refine lv_aload_n hx hb dJ5_getValue_6d5f1_0 rfl (lv_at hl 0 rfl) ?_
  refine l_get (ref := "java/lang/AbstractStringBuilder") hC hR (lX_mx 0 rfl) (T := TJ4) (N := 4) (ci := 1) rfl qinJ4 0 (by decide) qkj_888 rfl rfl dJ5_getValue_6d5f1_1 ?_
  refine l_aret (T := Unit) (F := fun _ _ _ _ _ => True) (X1 := fun (_ : Unit) (_ : Nat) => lX [] [lob b v n] []) () hC hR hr (Or.inr ⟨_, rfl⟩) rfl rfl (fun _ _ _ _ _ _ _ _ _ _ => trivial) trivial dJ5_getValue_6d5f1_4 ?_ ?_ <;> omega
theorem qhd_B_newLength : yJ8_newLength_cabcc.cls ≠ "java/lang/invoke/MethodHandle" ∧ yJ8_newLength_cabcc.cls ≠ "java/lang/invoke/VarHandle" ∧ (parseMethodDescriptor yJ8_newLength_cabcc.desc).map (fun d => d.parameters.length) = some 3 := ⟨by decide +kernel, by decide +kernel, by decide +kernel⟩
set_option maxHeartbeats 4000000 in
set_option maxRecDepth 100000 in
theorem mB_newLength {l : Launch} {D : va_G} {G : Nat → ClassId} {ad : Nat → Nat} (hJ : qInj ad) {a k q : Nat} (ha : a ≤ 200) (h0 : 0 < k) (hk : k ≤ 200) (hq : q ≤ 200) : lCM l D G ad yJ8_newLength_cabcc (Cond.code yJ8_newLength_cabcc cJ8_newLength_cabcc 4 (some .int)) 2 0 0 [.int (nI a), .int (nI k), .int (nI q)] (lX [] [] []) (fun _ _ _ => True) (fun st => lQi D (lX [] [] []) (lX [] [] []) st (nI (a + (if k < q then q else k)))) := by
  refine l_start RJ8 rfl (by decide +kernel) hJ (fun a b h => by simp only [lQi, lQv, lQr, h]) (Nat.le_of_ble_eq_true rfl) ?_
  intro p e s m args below meth c ls hC hr hmi hE hR hl
  have hx := hC.1
  have hb := hC.2.1
  have hts := hC.2.2.2.2.1
  have hl : lv_has ls 4 [(0, .int (nI a)), (1, .int (nI k)), (2, .int (nI q))] := hl
  refine lv_iload_n hx hb dJ8_newLength_cabcc_0 rfl (lv_at hl 0 rfl) ?_
  refine lv_iload_n hx hb dJ8_newLength_cabcc_1 rfl (lv_at hl 1 rfl) ?_
  refine lv_iload_n hx hb dJ8_newLength_cabcc_2 rfl (lv_at hl 2 rfl) ?_
  refine va_mmax hx hb (hC.2.2.1.trans hl.1.symm) hC.2.2.2.1 (hts _ qkj_959) (hts _ qkj_663) (hts _ qk_25) (hts _ qkj_664) (Nat.le_of_ble_eq_true rfl) (Nat.le_of_ble_eq_true rfl) (Nat.zero_le _) (Nat.zero_le _) dJ8_newLength_cabcc_3 ?_
  refine l_eqi (x := (if nI k < nI q then nI q else nI k)) (y := nI (if k < q then q else k)) (ls_max (by omega) (by omega)) ?_
  refine lv_iadd hx hb dJ8_newLength_cabcc_6 ?_
  refine l_eqi (x := ((nI a) + (nI (if k < q then q else k)))) (y := nI (a + (if k < q then q else k))) (nI_add _ _) ?_
  refine lv_istore_n (lv' := [(3, .int (nI (a + (if k < q then q else k)))), (0, .int (nI a)), (1, .int (nI k)), (2, .int (nI q))]) hx hb dJ8_newLength_cabcc_7 rfl hl (by decide) rfl (fun ls hl => ?_)
  refine lv_iconst (v := 0) hx hb dJ8_newLength_cabcc_8 (by decide) ?_
  refine lv_iload_n hx hb dJ8_newLength_cabcc_9 rfl (lv_at hl 0 rfl) ?_
  refine lv_icmp_ge (tgt := 21) hx hb dJ8_newLength_cabcc_10 (by decide) (fun hbr => absurd hbr (nI_nle (by split <;> omega) (by split <;> omega))) (fun hbr => ?_)
  refine lv_iload_n hx hb dJ8_newLength_cabcc_13 rfl (lv_at hl 0 rfl) ?_
  refine lv_ldc (v := 2147483639) hx hb hC.2.2.2.1 (hts _ qkm_960) dJ8_newLength_cabcc_14 ?_
  refine lv_icmp_gt (tgt := 21) hx hb dJ8_newLength_cabcc_16 (by decide) (fun hbr => absurd hbr (show ¬ nI 2147483639 < nI (a + (if k < q then q else k)) from nI_nlt (by split <;> omega) (by decide))) (fun hbr => ?_)
  refine lv_iload_n hx hb dJ8_newLength_cabcc_19 rfl (lv_at hl 0 rfl) ?_
  exact l_iret hC hR hr rfl rfl rfl dJ8_newLength_cabcc_20 (Nat.le_of_ble_eq_true rfl) (Nat.le_of_ble_eq_true rfl)
theorem qhd_B_newCapacity : yJ5_newCapacity_0f7a4.cls ≠ "java/lang/invoke/MethodHandle" ∧ yJ5_newCapacity_0f7a4.cls ≠ "java/lang/invoke/VarHandle" ∧ (parseMethodDescriptor yJ5_newCapacity_0f7a4.desc).map (fun d => d.parameters.length) = some 1 := ⟨by decide +kernel, by decide +kernel, by decide +kernel⟩
set_option maxHeartbeats 4000000 in
set_option maxRecDepth 100000 in
theorem mB_newCapacity {l : Launch} {D : va_G} {G : Nat → ClassId} {ad : Nat → Nat} (hJ : qInj ad) {b v cap q : Nat} {n : Int32} {f : Nat → Int32} (hq : q ≤ 60) (hc : cap ≤ 130) (hqc : ¬ q ≤ cap) : lCM l D G ad yJ5_newCapacity_0f7a4 (Cond.code yJ5_newCapacity_0f7a4 cJ5_newCapacity_0f7a4 6 (some .int)) 3 0 0 [.ref b, .int (nI q)] (lX [] [lob b v n, lby G v cap f] []) (fun _ _ _ => True) (fun st => lQi D (lX [] [lob b v n, lby G v cap f] []) (lX [] [lob b v n, lby G v cap f] []) st (nI (lcap q cap))) := by
  refine l_start RJ5 rfl (by decide +kernel) hJ (fun a b h => by simp only [lQi, lQv, lQr, h]) (Nat.le_of_ble_eq_true rfl) ?_
  intro p e s m args below meth c ls hC hr hmi hE hR hl
  have hx := hC.1
  have hb := hC.2.1
  have hts := hC.2.2.2.2.1
  have hl : lv_has ls 6 [(0, .ref b), (1, .int (nI q))] := hl
  refine lv_aload_n hx hb dJ5_newCapacity_0f7a4_0 rfl (lv_at hl 0 rfl) ?_
  refine l_get (ref := "java/lang/AbstractStringBuilder") hC hR (lX_mx 0 rfl) (T := TJ4) (N := 4) (ci := 1) rfl qinJ4 0 (by decide) qkj_888 rfl rfl dJ5_newCapacity_0f7a4_1 ?_
  refine l_alen hC hR (lX_mx 1 rfl) (t := 5) rfl rfl dJ5_newCapacity_0f7a4_4 ?_
  refine lv_istore_n (lv' := [(2, .int (Int32.ofNat cap)), (0, .ref b), (1, .int (nI q))]) hx hb dJ5_newCapacity_0f7a4_5 rfl hl (by decide) rfl (fun ls hl => ?_)
  refine lv_iload_n hx hb dJ5_newCapacity_0f7a4_6 rfl (lv_at hl 2 rfl) ?_
  refine lv_aload_n hx hb dJ5_newCapacity_0f7a4_7 rfl (lv_at hl 1 rfl) ?_
  refine l_get (ref := "java/lang/AbstractStringBuilder") hC hR (lX_mx 0 rfl) (T := TJ4) (N := 4) (ci := 1) rfl qinJ4 1 (by decide) qkj_889 rfl rfl dJ5_newCapacity_0f7a4_8 ?_
  refine lv_ishl hx hb dJ5_newCapacity_0f7a4_11 ?_
  refine l_eqi (x := ((nI q) <<< (0 &&& 31))) (y := nI q) (sb_shl0 _) ?_
  refine lv_istore_n (lv' := [(3, .int (nI q)), (2, .int (Int32.ofNat cap)), (0, .ref b), (1, .int (nI q))]) hx hb dJ5_newCapacity_0f7a4_12 rfl hl (by decide) rfl (fun ls hl => ?_)
  refine lv_iload_n hx hb dJ5_newCapacity_0f7a4_13 rfl (lv_at hl 0 rfl) ?_
  refine lv_iload_n hx hb dJ5_newCapacity_0f7a4_14 rfl (lv_at hl 1 rfl) ?_
  refine lv_isub hx hb dJ5_newCapacity_0f7a4_15 ?_
  refine l_eqi (x := ((nI q) - (Int32.ofNat cap))) (y := nI (q - cap)) (pk_sub (by omega)) ?_
  refine lv_istore (lv' := [(4, .int (nI (q - cap))), (3, .int (nI q)), (2, .int (Int32.ofNat cap)), (0, .ref b), (1, .int (nI q))]) hx hb dJ5_newCapacity_0f7a4_16 hl (by decide) rfl (fun ls hl => ?_)
  refine lv_iload_n hx hb dJ5_newCapacity_0f7a4_18 rfl (lv_at hl 2 rfl) ?_
  refine lv_iload hx hb dJ5_newCapacity_0f7a4_19 (lv_at hl 0 rfl) ?_
  refine lv_iload_n hx hb dJ5_newCapacity_0f7a4_21 rfl (lv_at hl 2 rfl) ?_
  refine lv_iconst (v := 2) hx hb dJ5_newCapacity_0f7a4_22 (by decide) ?_
  refine lv_aload_n hx hb dJ5_newCapacity_0f7a4_23 rfl (lv_at hl 3 rfl) ?_
  refine l_get (ref := "java/lang/AbstractStringBuilder") hC hR (lX_mx 0 rfl) (T := TJ4) (N := 4) (ci := 1) rfl qinJ4 1 (by decide) qkj_889 rfl rfl dJ5_newCapacity_0f7a4_24 ?_
  refine lv_ishl hx hb dJ5_newCapacity_0f7a4_27 ?_
  refine l_eqi (x := ((2 : Int32) <<< (0 &&& 31))) (y := 2) (by decide) ?_
  refine lv_iadd hx hb dJ5_newCapacity_0f7a4_28 ?_
  refine l_eqi (x := ((Int32.ofNat cap) + 2)) (y := nI (cap + 2)) (nI_add cap 2) ?_
  refine l_callSi hC hR (mB_newLength hJ (a := cap) (k := q - cap) (q := cap + 2) (by omega) (by omega) (by omega) (by omega)) lNo_k trivial lp_0 lp_0.symm qkj_956 qkj_957 qkj_43 qkj_958 qhd_B_newLength ⟨Nat.le_of_ble_eq_true rfl, Nat.le_of_ble_eq_true rfl⟩ hl.1 rfl (Nat.le_of_ble_eq_true rfl) dJ5_newCapacity_0f7a4_29 ⟨Nat.le_of_ble_eq_true rfl, Nat.le_of_ble_eq_true rfl⟩ (fun H locs hR hkp => ?_)
  refine l_eqi (x := (nI (cap + (if q - cap < cap + 2 then cap + 2 else q - cap)))) (y := nI (lcap q cap)) (by rw [lcap_g hqc]) ?_
  refine lv_istore (lv' := [(5, .int (nI (lcap q cap))), (4, .int (nI (q - cap))), (3, .int (nI q)), (2, .int (Int32.ofNat cap)), (0, .ref b), (1, .int (nI q))]) hx hb dJ5_newCapacity_0f7a4_32 hl (by decide) rfl (fun ls hl => ?_)
  refine lv_iload hx hb dJ5_newCapacity_0f7a4_34 (lv_at hl 0 rfl) ?_
  refine lv_ldc (v := 2147483647) hx hb hC.2.2.2.1 (hts _ qkm_964) dJ5_newCapacity_0f7a4_36 ?_
  refine lv_icmp_ne (tgt := 51) hx hb dJ5_newCapacity_0f7a4_38 (by decide) (fun hbr => ?_) (fun hbr => absurd hbr (fun z => by have := (nI_eq (by have := (lcap_b hq hc).2.2; omega) (by decide)).mp (show nI (lcap q cap) = nI 2147483647 from z); have := (lcap_b hq hc).2.2; omega))
  refine lv_iload hx hb dJ5_newCapacity_0f7a4_51 (lv_at hl 0 rfl) ?_
  refine lv_aload_n hx hb dJ5_newCapacity_0f7a4_53 rfl (lv_at hl 4 rfl) ?_
  refine l_get (ref := "java/lang/AbstractStringBuilder") hC hR (lX_mx 0 rfl) (T := TJ4) (N := 4) (ci := 1) rfl qinJ4 1 (by decide) qkj_889 rfl rfl dJ5_newCapacity_0f7a4_54 ?_
  refine lv_ishr hx hb dJ5_newCapacity_0f7a4_57 ?_
  refine l_eqi (x := ((nI (lcap q cap)) >>> (0 &&& 31))) (y := nI (lcap q cap)) (sb_shr0 _) ?_
  exact l_iret hC hR hr rfl rfl rfl dJ5_newCapacity_0f7a4_58 (Nat.le_of_ble_eq_true rfl) (Nat.le_of_ble_eq_true rfl)
theorem qhd_B_copyOf : yJ7_copyOf_9075b.cls ≠ "java/lang/invoke/MethodHandle" ∧ yJ7_copyOf_9075b.cls ≠ "java/lang/invoke/VarHandle" ∧ (parseMethodDescriptor yJ7_copyOf_9075b.desc).map (fun d => d.parameters.length) = some 2 := ⟨by decide +kernel, by decide +kernel, by decide +kernel⟩
set_option maxHeartbeats 4000000 in
set_option maxRecDepth 100000 in
theorem mB_copyOf {l : Launch} {D : va_G} {G : Nat → ClassId} {ad : Nat → Nat} (hJ : qInj ad) {v cap q : Nat} {f : Nat → Int32} (hq : q ≤ 130) (hcq : cap < q) (hf : sb_Fit f) : lCM l D G ad yJ7_copyOf_9075b (Cond.code yJ7_copyOf_9075b cJ7_copyOf_9075b 3 (some (.array .byte))) 2 1 130 [.ref v, .int (nI q)] (lX [] [lby G v cap f] []) (fun _ _ _ => True) (lQr (T := Unit) D ad (lX [] [lby G v cap f] []) (fun _ a => lX [] [lby G a q (va_cpy f (fun _ => 0) 0 0 cap), lby G v cap f] []) (fun _ _ => True) (fun _ _ _ _ _ => True)) := by
  refine l_start RJ7 rfl (by decide +kernel) hJ (fun a b h => by simp only [lQi, lQv, lQr, h]) (Nat.le_of_ble_eq_true rfl) ?_
  intro p e s m args below meth c ls hC hr hmi hE hR hl
  have hx := hC.1
  have hb := hC.2.1
  have hts := hC.2.2.2.2.1
  have hl : lv_has ls 3 [(0, .ref v), (1, .int (nI q))] := hl
  refine lv_iload_n hx hb dJ7_copyOf_9075b_0 rfl (lv_at hl 1 rfl) ?_
  refine lv_aload_n hx hb dJ7_copyOf_9075b_1 rfl (lv_at hl 0 rfl) ?_
  refine l_alen hC hR (lX_mx 0 rfl) (t := 5) rfl rfl dJ7_copyOf_9075b_2 ?_
  refine lv_icmp_ne (tgt := 14) hx hb dJ7_copyOf_9075b_3 (by decide) (fun hbr => ?_) (fun hbr => absurd hbr (fun z => by have := (nI_eq (by omega) (by omega)).mp (show nI q = nI cap from z); omega))
  refine lv_iload_n hx hb dJ7_copyOf_9075b_14 rfl (lv_at hl 1 rfl) ?_
  refine l_newa (atype := .byte) hC hR (t := 5) (N := q) (E := .inl (fun _ => 0)) rfl qka_byte rfl (fun cA => rfl) (nI_pos (by omega)) (nI_clamp (by omega)) (by show q * 1 ≤ 536870912; omega) (by show _ ≤ 1; omega) (by show _ ≤ 130; omega) dJ7_copyOf_9075b_15 (fun u H hR hkp => ?_)
  refine lv_astore_n (lv' := [(2, .ref u), (0, .ref v), (1, .int (nI q))]) hx hb dJ7_copyOf_9075b_17 rfl hl (by decide) rfl (fun ls hl => ?_)
  refine lv_aload_n hx hb dJ7_copyOf_9075b_18 rfl (lv_at hl 1 rfl) ?_
  refine lv_iconst (v := 0) hx hb dJ7_copyOf_9075b_19 (by decide) ?_
  refine lv_aload_n hx hb dJ7_copyOf_9075b_20 rfl (lv_at hl 0 rfl) ?_
  refine lv_iconst (v := 0) hx hb dJ7_copyOf_9075b_21 (by decide) ?_
  refine lv_aload_n hx hb dJ7_copyOf_9075b_22 rfl (lv_at hl 1 rfl) ?_
  refine l_alen hC hR (lX_mx 1 rfl) (t := 5) rfl rfl dJ7_copyOf_9075b_23 ?_
  refine lv_iload_n hx hb dJ7_copyOf_9075b_24 rfl (lv_at hl 2 rfl) ?_
  refine va_mmin hx hb (hC.2.2.1.trans hl.1.symm) hC.2.2.2.1 (hts _ qkj_975) (hts _ qkj_976) (hts _ qk_25) (hts _ qkj_977) (Nat.le_of_ble_eq_true rfl) (Nat.le_of_ble_eq_true rfl) (by show _ ≤ 1; omega) (by show _ ≤ 130; omega) dJ7_copyOf_9075b_25 ?_
  refine l_eqi (x := (if nI q < nI cap then nI q else nI cap)) (y := nI cap) (if_neg (nI_nlt (by omega) (by omega))) ?_
  refine l_cpy hC hR 1 0 rfl rfl (by decide) (by decide) (nI_pos (by omega)) (by rw [nI_clamp (n := cap) (by omega), sb_cl0]; omega) (by rw [nI_clamp (n := cap) (by omega), sb_cl0]; omega) hf qkj_978 hl.1 (Nat.le_of_ble_eq_true rfl) (Nat.le_of_ble_eq_true rfl) dJ7_copyOf_9075b_28 (fun H locs hR => ?_)
  rw [nI_clamp (n := cap) (by omega), sb_cl0] at hR
  have hR : lR D _ (lX [] [lby G u q (va_cpy f (fun _ => 0) 0 0 cap), lby G v cap f] []) s H locs := hR
  refine lv_aload_n hx hb dJ7_copyOf_9075b_31 rfl (lv_at hl 0 rfl) ?_
  refine l_aret (T := Unit) (F := fun _ _ _ _ _ => True) (X1 := fun (_ : Unit) (a : Nat) => lX [] [lby G a q (va_cpy f (fun _ => 0) 0 0 cap), lby G v cap f] []) () hC hR hr (Or.inr ⟨_, rfl⟩) trivial rfl (fun _ _ _ _ _ _ _ _ _ _ => trivial) trivial dJ7_copyOf_9075b_32 ?_ ?_ <;> omega
theorem qhd_B_ensure : yJ5_ensureCapacityInternal_d00df.cls ≠ "java/lang/invoke/MethodHandle" ∧ yJ5_ensureCapacityInternal_d00df.cls ≠ "java/lang/invoke/VarHandle" ∧ (parseMethodDescriptor yJ5_ensureCapacityInternal_d00df.desc).map (fun d => d.parameters.length) = some 1 := ⟨by decide +kernel, by decide +kernel, by decide +kernel⟩
set_option maxHeartbeats 4000000 in
set_option maxRecDepth 100000 in
theorem mB_ensure {l : Launch} {D : va_G} {G : Nat → ClassId} {ad : Nat → Nat} (hJ : qInj ad) {b v cap q : Nat} {n : Int32} {f : Nat → Int32} (hq : q ≤ 60) (hc : cap ≤ 130) (hf : sb_Fit f) : lCM l D G ad yJ5_ensureCapacityInternal_d00df (Cond.code yJ5_ensureCapacityInternal_d00df cJ5_ensureCapacityInternal_d00df 3 (none)) 4 1 130 [.ref b, .int (nI q)] (lX [] [lob b v n, lby G v cap f] []) (fun _ _ _ => True) (lQv (T := Nat × Nat × (Nat → Int32)) D ad (lX [] [lob b v n, lby G v cap f] []) (fun u => lX [] [lob b u.1 n, lby G u.1 u.2.1 u.2.2] []) (fun u => u.2.1 = lcap q cap ∧ (∀ j, j < cap → u.2.2 j = f j) ∧ sb_Fit u.2.2)) := by
  refine l_start RJ5 rfl (by decide +kernel) hJ (fun a b h => by simp only [lQi, lQv, lQr, h]) (Nat.le_of_ble_eq_true rfl) ?_
  intro p e s m args below meth c ls hC hr hmi hE hR hl
  have hx := hC.1
  have hb := hC.2.1
  have hts := hC.2.2.2.2.1
  have hl : lv_has ls 3 [(0, .ref b), (1, .int (nI q))] := hl
  refine lv_aload_n hx hb dJ5_ensureCapacityInternal_d00df_0 rfl (lv_at hl 0 rfl) ?_
  refine l_get (ref := "java/lang/AbstractStringBuilder") hC hR (lX_mx 0 rfl) (T := TJ4) (N := 4) (ci := 1) rfl qinJ4 0 (by decide) qkj_888 rfl rfl dJ5_ensureCapacityInternal_d00df_1 ?_
  refine l_alen hC hR (lX_mx 1 rfl) (t := 5) rfl rfl dJ5_ensureCapacityInternal_d00df_4 ?_
  refine lv_aload_n hx hb dJ5_ensureCapacityInternal_d00df_5 rfl (lv_at hl 0 rfl) ?_
  refine l_get (ref := "java/lang/AbstractStringBuilder") hC hR (lX_mx 0 rfl) (T := TJ4) (N := 4) (ci := 1) rfl qinJ4 1 (by decide) qkj_889 rfl rfl dJ5_ensureCapacityInternal_d00df_6 ?_
  refine lv_ishr hx hb dJ5_ensureCapacityInternal_d00df_9 ?_
  refine l_eqi (x := ((Int32.ofNat cap) >>> (0 &&& 31))) (y := nI cap) (sb_shr0 _) ?_
  refine lv_istore_n (lv' := [(2, .int (nI cap)), (0, .ref b), (1, .int (nI q))]) hx hb dJ5_ensureCapacityInternal_d00df_10 rfl hl (by decide) rfl (fun ls hl => ?_)
  refine lv_iload_n hx hb dJ5_ensureCapacityInternal_d00df_11 rfl (lv_at hl 2 rfl) ?_
  refine lv_iload_n hx hb dJ5_ensureCapacityInternal_d00df_12 rfl (lv_at hl 0 rfl) ?_
  refine lv_isub hx hb dJ5_ensureCapacityInternal_d00df_13 ?_
  have e1 : (nI q - nI cap).toInt = (q : Int) - cap := pk_sub_toInt (by omega) (by omega)
  by_cases hqc : q ≤ cap
  · refine lv_if_le (tgt := 38) hx hb dJ5_ensureCapacityInternal_d00df_14 (by decide) (fun hbr => ?_) (fun hbr => absurd (by rw [Int32.le_iff_toInt_le, e1, Int32.toInt_zero]; omega) hbr)
    exact l_vret (T := Nat × Nat × (Nat → Int32)) (X1 := (fun u => lX [] [lob b u.1 n, lby G u.1 u.2.1 u.2.2] [])) (Y := (fun u => u.2.1 = lcap q cap ∧ (∀ j, j < cap → u.2.2 j = f j) ∧ sb_Fit u.2.2)) (v, cap, f) hC hR hr ⟨by unfold lcap; rw [if_pos hqc], fun _ _ => rfl, hf⟩ rfl dJ5_ensureCapacityInternal_d00df_38 (Nat.le_of_ble_eq_true rfl) (Nat.le_of_ble_eq_true rfl)
  · refine lv_if_le (tgt := 38) hx hb dJ5_ensureCapacityInternal_d00df_14 (by decide) (fun hbr => absurd hbr (fun z => by rw [Int32.le_iff_toInt_le, e1, Int32.toInt_zero] at z; omega)) (fun hbr => ?_)
    refine lv_aload_n hx hb dJ5_ensureCapacityInternal_d00df_17 rfl (lv_at hl 1 rfl) ?_
    refine lv_aload_n hx hb dJ5_ensureCapacityInternal_d00df_18 rfl (lv_at hl 1 rfl) ?_
    refine l_get (ref := "java/lang/AbstractStringBuilder") hC hR (lX_mx 0 rfl) (T := TJ4) (N := 4) (ci := 1) rfl qinJ4 0 (by decide) qkj_888 rfl rfl dJ5_ensureCapacityInternal_d00df_19 ?_
    refine lv_aload_n hx hb dJ5_ensureCapacityInternal_d00df_22 rfl (lv_at hl 1 rfl) ?_
    refine lv_iload_n hx hb dJ5_ensureCapacityInternal_d00df_23 rfl (lv_at hl 2 rfl) ?_
    refine l_callUi (C := RJ4) (x := yJ5_newCapacity_0f7a4) hC hR (mB_newCapacity hJ (b := b) (v := v) (cap := cap) (n := n) (f := f) hq hc hqc) lNo_k trivial lp_id lp_id1 (l_recv hC hR (lX_mx 0 rfl) (ci := 1) rfl) qkj_952 qkm_1348 (lsel_priv (x0 := yJ5_isLatin1_aae02) (hts _ qkj_984) rfl ⟨by decide, by decide⟩ (hC.2.2.2.2.2.2.2.2.2.2.2.2.2 _ (by decide)) (hts _ qkj_954)) qkj_954 qkj_38 qkj_955 rfl qhd_B_newCapacity ⟨Nat.le_of_ble_eq_true rfl, Nat.le_of_ble_eq_true rfl⟩ hl.1 rfl (Nat.le_of_ble_eq_true rfl) dJ5_ensureCapacityInternal_d00df_24 ⟨Nat.le_of_ble_eq_true rfl, Nat.le_of_ble_eq_true rfl⟩ (fun H locs hR hkp => ?_)
    refine lv_aload_n hx hb dJ5_ensureCapacityInternal_d00df_27 rfl (lv_at hl 1 rfl) ?_
    refine l_get (ref := "java/lang/AbstractStringBuilder") hC hR (lX_mx 0 rfl) (T := TJ4) (N := 4) (ci := 1) rfl qinJ4 1 (by decide) qkj_889 rfl rfl dJ5_ensureCapacityInternal_d00df_28 ?_
    refine lv_ishl hx hb dJ5_ensureCapacityInternal_d00df_31 ?_
    refine l_eqi (x := ((nI (lcap q cap)) <<< (0 &&& 31))) (y := nI (lcap q cap)) (sb_shl0 _) ?_
    have hlc := lcap_b hq hc
    have hR := lR_pick hR [1, 0] (ex1 := [lby G v cap f, lob b v n]) (g1 := []) (by decide) rfl (Or.inl rfl)
    refine l_callSr hC hR (mB_copyOf hJ (v := v) (cap := cap) (q := lcap q cap) (f := f) (by omega) (by omega) hf) lNo_k trivial lp_O (fun _ _ => lp_OB) qkj_965 qkj_966 qkj_44 qkj_967 qhd_B_copyOf ⟨Nat.le_of_ble_eq_true rfl, Nat.le_of_ble_eq_true rfl⟩ hl.1 rfl (Nat.le_of_ble_eq_true rfl) dJ5_ensureCapacityInternal_d00df_32 ⟨Nat.le_of_ble_eq_true rfl, Nat.le_of_ble_eq_true rfl⟩ (fun _ _ => lNo_k) (fun _ u H locs _ hR hkp _ => ?_)
    refine l_put (ref := "java/lang/AbstractStringBuilder") hC hR 2 rfl (T := TJ4) (N := 4) (ci := 1) (ty := .array .byte) rfl qinJ4 tyJ4 tyJ4_ok nmJ4 0 (by decide) qkj_888 rfl rfl (by decide +kernel) rfl rfl (Nat.le_of_ble_eq_true rfl) dJ5_ensureCapacityInternal_d00df_35 (fun H locs hR => ?_)
    have hR : lR D _ (lX [] [lby G u (lcap q cap) (va_cpy f (fun _ => 0) 0 0 cap), lby G v cap f, lob b u n] []) s H locs := hR
    have hR := lR_pick hR [2, 0] (ex1 := [lob b u n, lby G u (lcap q cap) (va_cpy f (fun _ => 0) 0 0 cap)]) (g1 := []) (by decide) rfl (Or.inl rfl)
    exact l_vret (T := Nat × Nat × (Nat → Int32)) (X1 := (fun u => lX [] [lob b u.1 n, lby G u.1 u.2.1 u.2.2] [])) (Y := (fun u => u.2.1 = lcap q cap ∧ (∀ j, j < cap → u.2.2 j = f j) ∧ sb_Fit u.2.2)) (u, lcap q cap, va_cpy f (fun _ => 0) 0 0 cap) hC hR hr ⟨rfl, fun j hj => by show va_cpy f (fun _ => 0) 0 0 cap j = f j; exact sb_cpy0 hj, sb_fitC hf sb_fit0⟩ rfl dJ5_ensureCapacityInternal_d00df_38 (Nat.le_of_ble_eq_true rfl) (Nat.le_of_ble_eq_true rfl)
theorem qhd_B_canEncode : yJ1_canEncode_fc78d.cls ≠ "java/lang/invoke/MethodHandle" ∧ yJ1_canEncode_fc78d.cls ≠ "java/lang/invoke/VarHandle" ∧ (parseMethodDescriptor yJ1_canEncode_fc78d.desc).map (fun d => d.parameters.length) = some 1 := ⟨by decide +kernel, by decide +kernel, by decide +kernel⟩
set_option maxHeartbeats 4000000 in
set_option maxRecDepth 100000 in
theorem mB_canEncode {l : Launch} {D : va_G} {G : Nat → ClassId} {ad : Nat → Nat} (hJ : qInj ad) {k : Nat} (hk : k < 128) : lCM l D G ad yJ1_canEncode_fc78d (Cond.code yJ1_canEncode_fc78d cJ1_canEncode_fc78d 1 (some .boolean)) 1 0 0 [.int (nI k)] (lX [] [] []) (fun _ _ _ => True) (fun st => lQi D (lX [] [] []) (lX [] [] []) st 1) := by
  refine l_start RJ1 rfl (by decide +kernel) hJ (fun a b h => by simp only [lQi, lQv, lQr, h]) (Nat.le_of_ble_eq_true rfl) ?_
  intro p e s m args below meth c ls hC hr hmi hE hR hl
  have hx := hC.1
  have hb := hC.2.1
  have hts := hC.2.2.2.2.1
  have hl : lv_has ls 1 [(0, .int (nI k))] := hl
  refine lv_iload_n hx hb dJ1_canEncode_fc78d_0 rfl (lv_at hl 0 rfl) ?_
  refine lv_sipush (v := 255) hx hb dJ1_canEncode_fc78d_1 (by decide) ?_
  refine lv_icmp_gt (tgt := 11) hx hb dJ1_canEncode_fc78d_4 (by decide) (fun hbr => absurd hbr ((ls_byte k hk).2.2.2)) (fun hbr => ?_)
  refine lv_iconst (v := 1) hx hb dJ1_canEncode_fc78d_7 (by decide) ?_
  refine lv_goto (tgt := 12) hx hb dJ1_canEncode_fc78d_8 (by decide) ?_
  exact l_iret hC hR hr (by decide) rfl rfl dJ1_canEncode_fc78d_12 (Nat.le_of_ble_eq_true rfl) (Nat.le_of_ble_eq_true rfl)
theorem qhd_B_apc5 : yJ5_append_3fe6f.cls ≠ "java/lang/invoke/MethodHandle" ∧ yJ5_append_3fe6f.cls ≠ "java/lang/invoke/VarHandle" ∧ (parseMethodDescriptor yJ5_append_3fe6f.desc).map (fun d => d.parameters.length) = some 1 := ⟨by decide +kernel, by decide +kernel, by decide +kernel⟩
set_option maxHeartbeats 4000000 in
set_option maxRecDepth 100000 in
theorem mB_apc5 {l : Launch} {D : va_G} {G : Nat → ClassId} {ad : Nat → Nat} (hJ : qInj ad) {b v cap n k : Nat} {f : Nat → Int32} (hn : n + 1 ≤ 60) (hnc : n ≤ cap) (hc : cap ≤ 130) (hf : sb_Fit f) (hk1 : k < 128) : lCM l D G ad yJ5_append_3fe6f (Cond.code yJ5_append_3fe6f cJ5_append_3fe6f 2 (some (.object "java/lang/AbstractStringBuilder"))) 5 1 130 [.ref b, .int (nI k)] (lX [] [lob b v (nI n), lby G v cap f] []) (fun _ _ _ => True) (lQr (T := Nat × Nat × (Nat → Int32)) D ad (lX [] [lob b v (nI n), lby G v cap f] []) (fun u _ => lX [] [lob b u.1 (nI (n + 1)), lby G u.1 u.2.1 u.2.2] []) (fun u a => a = b ∧ u.2.1 = lcap (n + 1) cap ∧ (∀ j, j < n → u.2.2 j = f j) ∧ (∀ j, j < 1 → u.2.2 (n + j) = nI k) ∧ sb_Fit u.2.2) (fun _ _ _ _ _ => True)) := by
  refine l_start RJ5 rfl (by decide +kernel) hJ (fun a b h => by simp only [lQi, lQv, lQr, h]) (Nat.le_of_ble_eq_true rfl) ?_
  intro p e s m args below meth c ls hC hr hmi hE hR hl
  have hx := hC.1
  have hb := hC.2.1
  have hts := hC.2.2.2.2.1
  have hl : lv_has ls 2 [(0, .ref b), (1, .int (nI k))] := hl
  refine lv_aload_n hx hb dJ5_append_3fe6f_0 rfl (lv_at hl 0 rfl) ?_
  refine lv_aload_n hx hb dJ5_append_3fe6f_1 rfl (lv_at hl 0 rfl) ?_
  refine l_get (ref := "java/lang/AbstractStringBuilder") hC hR (lX_mx 0 rfl) (T := TJ4) (N := 4) (ci := 1) rfl qinJ4 3 (by decide) qkj_891 rfl rfl dJ5_append_3fe6f_2 ?_
  refine lv_iconst (v := 1) hx hb dJ5_append_3fe6f_5 (by decide) ?_
  refine lv_iadd hx hb dJ5_append_3fe6f_6 ?_
  refine l_eqi (x := ((nI n) + 1)) (y := nI (n + 1)) (nI_1 n) ?_
  refine l_callUv (C := RJ4) (x := yJ5_ensureCapacityInternal_d00df) hC hR (mB_ensure hJ (b := b) (v := v) (cap := cap) (q := n + 1) (n := nI n) (f := f) (by omega) hc hf) lNo_k trivial lp_id (fun _ => lp_id1) (l_recv hC hR (lX_mx 0 rfl) (ci := 1) rfl) qkj_948 qkm_1347 (lsel_priv (x0 := yJ5_isLatin1_aae02) (hts _ qkj_984) rfl ⟨by decide, by decide⟩ (hC.2.2.2.2.2.2.2.2.2.2.2.2.2 _ (by decide)) (hts _ qkj_950)) qkj_950 qkj_38 qkj_951 rfl qhd_B_ensure ⟨Nat.le_of_ble_eq_true rfl, Nat.le_of_ble_eq_true rfl⟩ hl.1 rfl (Nat.le_of_ble_eq_true rfl) dJ5_append_3fe6f_7 ⟨Nat.le_of_ble_eq_true rfl, Nat.le_of_ble_eq_true rfl⟩ (fun u H locs hY hR hkp => ?_)
  obtain ⟨v1, c1, f1⟩ := u
  obtain ⟨y1, y2, y3⟩ := hY
  dsimp only at y1 y2 y3 hR
  have hlc := lcap_b (q := n + 1) (cap := cap) (by omega) hc
  rw [← y1] at hlc
  refine lv_aload_n hx hb dJ5_append_3fe6f_10 rfl (lv_at hl 0 rfl) ?_
  refine l_callUi (C := RJ4) (x := yJ5_isLatin1_aae02) hC hR (mB_isLatin1 hJ (b := b) (v := v1) (n := nI n)) lNo_k trivial lp_O lp_O.symm (l_recv hC hR (lX_mx 0 rfl) (ci := 1) rfl) qkj_981 qkm_983 (hts _ qkj_984) qkj_982 qkj_38 qkj_985 rfl qhd_B_isLatin1 ⟨Nat.le_of_ble_eq_true rfl, Nat.le_of_ble_eq_true rfl⟩ hl.1 rfl (Nat.le_of_ble_eq_true rfl) dJ5_append_3fe6f_11 ⟨Nat.le_of_ble_eq_true rfl, Nat.le_of_ble_eq_true rfl⟩ (fun H locs hR hkp => ?_)
  refine lv_if_eq (tgt := 45) hx hb dJ5_append_3fe6f_14 (by decide) (fun hbr => absurd hbr (by decide)) (fun hbr => ?_)
  refine lv_iload_n hx hb dJ5_append_3fe6f_17 rfl (lv_at hl 1 rfl) ?_
  refine l_callSi hC hR (mB_canEncode hJ hk1) lNo_k trivial lp_0 lp_0.symm qkj_986 qkj_987 qkj_41 qkj_988 qhd_B_canEncode ⟨Nat.le_of_ble_eq_true rfl, Nat.le_of_ble_eq_true rfl⟩ hl.1 rfl (Nat.le_of_ble_eq_true rfl) dJ5_append_3fe6f_18 ⟨Nat.le_of_ble_eq_true rfl, Nat.le_of_ble_eq_true rfl⟩ (fun H locs hR hkp => ?_)
  refine lv_if_eq (tgt := 45) hx hb dJ5_append_3fe6f_21 (by decide) (fun hbr => absurd hbr (by decide)) (fun hbr => ?_)
  refine lv_aload_n hx hb dJ5_append_3fe6f_24 rfl (lv_at hl 0 rfl) ?_
  refine l_get (ref := "java/lang/AbstractStringBuilder") hC hR (lX_mx 0 rfl) (T := TJ4) (N := 4) (ci := 1) rfl qinJ4 0 (by decide) qkj_888 rfl rfl dJ5_append_3fe6f_25 ?_
  refine lv_aload_n hx hb dJ5_append_3fe6f_28 rfl (lv_at hl 0 rfl) ?_
  refine lv_dup hx hb dJ5_append_3fe6f_29 rfl ?_
  refine l_get (ref := "java/lang/AbstractStringBuilder") hC hR (lX_mx 0 rfl) (T := TJ4) (N := 4) (ci := 1) rfl qinJ4 3 (by decide) qkj_891 rfl rfl dJ5_append_3fe6f_30 ?_
  refine lv_dup_x1 hx hb dJ5_append_3fe6f_33 rfl rfl ?_
  refine lv_iconst (v := 1) hx hb dJ5_append_3fe6f_34 (by decide) ?_
  refine lv_iadd hx hb dJ5_append_3fe6f_35 ?_
  refine l_eqi (x := ((nI n) + 1)) (y := nI (n + 1)) (nI_1 n) ?_
  refine l_put (ref := "java/lang/AbstractStringBuilder") hC hR 0 rfl (T := TJ4) (N := 4) (ci := 1) (ty := .int) rfl qinJ4 tyJ4 tyJ4_ok nmJ4 3 (by decide) qkj_891 rfl rfl (by decide +kernel) rfl rfl (Nat.le_of_ble_eq_true rfl) dJ5_append_3fe6f_36 (fun H locs hR => ?_)
  have hR : lR D _ (lX [] [lob b v1 (nI (n + 1)), lby G v1 c1 f1] []) s H locs := hR
  refine lv_iload_n hx hb dJ5_append_3fe6f_39 rfl (lv_at hl 1 rfl) ?_
  refine lv_i2b hx hb dJ5_append_3fe6f_40 rfl ?_
  refine l_eqi (x := (((nI k)).toInt8.toInt32)) (y := nI k) ((ls_byte k hk1).1) ?_
  refine l_bst hC hR 1 rfl (j := n) (vp_in_nI (by omega) (by omega)) (nI_clamp (by omega)) ((ls_byte k hk1).2.1) dJ5_append_3fe6f_41 (fun H locs hR => ?_)
  have hR : lR D _ (lX [] [lob b v1 (nI (n + 1)), lby G v1 c1 (upd f1 n (nI k))] []) s H locs := hR
  refine lv_goto (tgt := 75) hx hb dJ5_append_3fe6f_42 (by decide) ?_
  refine lv_aload_n hx hb dJ5_append_3fe6f_75 rfl (lv_at hl 0 rfl) ?_
  refine l_aret (T := Nat × Nat × (Nat → Int32)) (F := fun _ _ _ _ _ => True) (X1 := (fun u _ => lX [] [lob b u.1 (nI (n + 1)), lby G u.1 u.2.1 u.2.2] [])) (Y := (fun u a => a = b ∧ u.2.1 = lcap (n + 1) cap ∧ (∀ j, j < n → u.2.2 j = f j) ∧ (∀ j, j < 1 → u.2.2 (n + j) = nI k) ∧ sb_Fit u.2.2)) (v1, c1, upd f1 n (nI k)) hC hR hr (Or.inl ⟨_, rfl⟩) ⟨rfl, y1, fun j hj => by show upd f1 n (nI k) j = f j; rw [pk_un (by omega)]; exact y2 j (by omega), fun j hj => by show upd f1 n (nI k) (n + j) = nI k; rw [show n + j = n by omega]; exact pk_us, sb_fitU y3 (ls_byte k hk1).2.2.1⟩ rfl (fun _ _ _ _ _ _ _ _ _ _ => trivial) trivial dJ5_append_3fe6f_76 ?_ ?_ <;> omega
theorem qhd_B_apc : yJ4_append_cf468.cls ≠ "java/lang/invoke/MethodHandle" ∧ yJ4_append_cf468.cls ≠ "java/lang/invoke/VarHandle" ∧ (parseMethodDescriptor yJ4_append_cf468.desc).map (fun d => d.parameters.length) = some 1 := ⟨by decide +kernel, by decide +kernel, by decide +kernel⟩
set_option maxHeartbeats 4000000 in
set_option maxRecDepth 100000 in
theorem mB_apc {l : Launch} {D : va_G} {G : Nat → ClassId} {ad : Nat → Nat} (hJ : qInj ad) {b v cap n k : Nat} {f : Nat → Int32} (hn : n + 1 ≤ 60) (hnc : n ≤ cap) (hc : cap ≤ 130) (hf : sb_Fit f) (hk1 : k < 128) : lCM l D G ad yJ4_append_cf468 (Cond.code yJ4_append_cf468 cJ4_append_cf468 2 (some (.object "java/lang/StringBuilder"))) 6 1 130 [.ref b, .int (nI k)] (lX [] [lob b v (nI n), lby G v cap f] []) (fun _ _ _ => True) (lQr (T := Nat × Nat × (Nat → Int32)) D ad (lX [] [lob b v (nI n), lby G v cap f] []) (fun u _ => lX [] [lob b u.1 (nI (n + 1)), lby G u.1 u.2.1 u.2.2] []) (fun u a => a = b ∧ u.2.1 = lcap (n + 1) cap ∧ (∀ j, j < n → u.2.2 j = f j) ∧ (∀ j, j < 1 → u.2.2 (n + j) = nI k) ∧ sb_Fit u.2.2) (fun _ _ _ _ _ => True)) := by
  refine l_start RJ4 rfl (by decide +kernel) hJ (fun a b h => by simp only [lQi, lQv, lQr, h]) (Nat.le_of_ble_eq_true rfl) ?_
  intro p e s m args below meth c ls hC hr hmi hE hR hl
  have hx := hC.1
  have hb := hC.2.1
  have hts := hC.2.2.2.2.1
  have hl : lv_has ls 2 [(0, .ref b), (1, .int (nI k))] := hl
  refine lv_aload_n hx hb dJ4_append_cf468_0 rfl (lv_at hl 0 rfl) ?_
  refine lv_iload_n hx hb dJ4_append_cf468_1 rfl (lv_at hl 1 rfl) ?_
  refine l_callSUr (C := RJ4) hC hR (mB_apc5 hJ (v := v) (cap := cap) (f := f) hn hnc hc hf hk1) lNo_k trivial lp_id (fun _ _ => lp_id1) (l_recv hC hR (lX_mx 0 rfl) (ci := 1) rfl) ⟨_, (hC.2.2.2.2.2.2.1.1 1 _ rfl).2⟩ qkj_945 qkm_1346 qkm_900 qkj_946 qkj_38 qkj_947 ⟨by decide, qhd_B_apc5.2.2⟩ ⟨Nat.le_of_ble_eq_true rfl, Nat.le_of_ble_eq_true rfl⟩ hl.1 rfl (Nat.le_of_ble_eq_true rfl) dJ4_append_cf468_2 ⟨Nat.le_of_ble_eq_true rfl, Nat.le_of_ble_eq_true rfl⟩ (fun _ _ => lNo_k) (fun u a1 H locs hY hR hkp _ => ?_)
  refine lv_pop hx hb dJ4_append_cf468_5 rfl ?_
  refine lv_aload_n hx hb dJ4_append_cf468_6 rfl (lv_at hl 0 rfl) ?_
  refine l_aret (T := Nat × Nat × (Nat → Int32)) (F := fun _ _ _ _ _ => True) (X1 := (fun u _ => lX [] [lob b u.1 (nI (n + 1)), lby G u.1 u.2.1 u.2.2] [])) (Y := (fun u a => a = b ∧ u.2.1 = lcap (n + 1) cap ∧ (∀ j, j < n → u.2.2 j = f j) ∧ (∀ j, j < 1 → u.2.2 (n + j) = nI k) ∧ sb_Fit u.2.2)) u hC hR hr (Or.inl ⟨_, rfl⟩) ⟨rfl, hY.2⟩ rfl (fun _ _ _ _ _ _ _ _ _ _ => trivial) trivial dJ4_append_cf468_7 ?_ ?_ <;> omega
theorem qhd_B_coder : yJ0_coder_7d493.cls ≠ "java/lang/invoke/MethodHandle" ∧ yJ0_coder_7d493.cls ≠ "java/lang/invoke/VarHandle" ∧ (parseMethodDescriptor yJ0_coder_7d493.desc).map (fun d => d.parameters.length) = some 0 := ⟨by decide +kernel, by decide +kernel, by decide +kernel⟩
set_option maxHeartbeats 4000000 in
set_option maxRecDepth 100000 in
theorem mB_coder {l : Launch} {D : va_G} {G : Nat → ClassId} {ad : Nat → Nat} (hJ : qInj ad) {q : Nat} {t : List Int32} : lCM l D G ad yJ0_coder_7d493 (Cond.code yJ0_coder_7d493 cJ0_coder_7d493 1 (some .byte)) 1 0 0 [.ref q] (lX [] [] []) (qSt q t) (fun st => lQi D (lX [] [] []) (lX [] [] []) st 0) := by
  refine l_start RJ0 rfl (by decide +kernel) hJ (fun a b h => by simp only [lQi, lQv, lQr, h]) (Nat.le_of_ble_eq_true rfl) ?_
  intro p e s m args below meth c ls hC hr hmi hE hR hl
  have hx := hC.1
  have hb := hC.2.1
  have hts := hC.2.2.2.2.1
  have hl : lv_has ls 1 [(0, .ref q)] := hl
  obtain ⟨hO, hc0, tv, hv, hasc, hT⟩ := hE
  refine l_compact hC hR qkj_910 dJ0_coder_7d493_0 ?_
  refine lv_if_eq (tgt := 13) hx hb dJ0_coder_7d493_3 (by decide) (fun hbr => absurd hbr (by decide)) (fun hbr => ?_)
  refine lv_aload_n hx hb dJ0_coder_7d493_6 rfl (lv_at hl 0 rfl) ?_
  refine l_ofs hC hR hc0 qkj_1141 rfl dJ0_coder_7d493_7 ?_
  refine lv_goto (tgt := 14) hx hb dJ0_coder_7d493_10 (by decide) ?_
  exact l_iret hC hR hr (by decide) rfl rfl dJ0_coder_7d493_14 (Nat.le_of_ble_eq_true rfl) (Nat.le_of_ble_eq_true rfl)
theorem qhd_B_slen : yJ0_length_8abf5.cls ≠ "java/lang/invoke/MethodHandle" ∧ yJ0_length_8abf5.cls ≠ "java/lang/invoke/VarHandle" ∧ (parseMethodDescriptor yJ0_length_8abf5.desc).map (fun d => d.parameters.length) = some 0 := ⟨by decide +kernel, by decide +kernel, by decide +kernel⟩
set_option maxHeartbeats 4000000 in
set_option maxRecDepth 100000 in
theorem mB_slen {l : Launch} {D : va_G} {G : Nat → ClassId} {ad : Nat → Nat} (hJ : qInj ad) {q : Nat} {t : List Int32} : lCM l D G ad yJ0_length_8abf5 (Cond.code yJ0_length_8abf5 cJ0_length_8abf5 1 (some .int)) 2 0 0 [.ref q] (lX [] [] []) (qSt q t) (fun st => lQi D (lX [] [] []) (lX [] [] []) st (nI t.length)) := by
  refine l_start RJ0 rfl (by decide +kernel) hJ (fun a b h => by simp only [lQi, lQv, lQr, h]) (Nat.le_of_ble_eq_true rfl) ?_
  intro p e s m args below meth c ls hC hr hmi hE hR hl
  have hx := hC.1
  have hb := hC.2.1
  have hts := hC.2.2.2.2.1
  have hl : lv_has ls 1 [(0, .ref q)] := hl
  have hE0 := hE
  obtain ⟨hO, hc0, tv, hv, hasc, hT⟩ := hE0
  refine lv_aload_n hx hb dJ0_length_8abf5_0 rfl (lv_at hl 0 rfl) ?_
  refine l_ofs hC hR hv qkj_1140 rfl dJ0_length_8abf5_1 ?_
  refine l_tlen hC hR hT rfl dJ0_length_8abf5_4 ?_
  refine lv_aload_n hx hb dJ0_length_8abf5_5 rfl (lv_at hl 0 rfl) ?_
  refine l_callVi hC hR (mB_coder hJ (q := q) (t := t)) qSt_k (l_now qSt_k hR hE) lp_0 lp_0.symm (qSt_rc (l_now qSt_k hR hE)) qkj_1042 qkj_1043 qkj_1044 qkj_34 qkj_1045 qhd_B_coder ⟨Nat.le_of_ble_eq_true rfl, Nat.le_of_ble_eq_true rfl⟩ hl.1 rfl (Nat.le_of_ble_eq_true rfl) dJ0_length_8abf5_6 ⟨Nat.le_of_ble_eq_true rfl, Nat.le_of_ble_eq_true rfl⟩ (fun H locs hR hkp => ?_)
  refine lv_ishr hx hb dJ0_length_8abf5_9 ?_
  refine l_eqi (x := ((Int32.ofNat t.length) >>> (0 &&& 31))) (y := nI t.length) (sb_shr0 _) ?_
  exact l_iret hC hR hr rfl rfl rfl dJ0_length_8abf5_10 (Nat.le_of_ble_eq_true rfl) (Nat.le_of_ble_eq_true rfl)
theorem qhd_B_inflate : yJ5_inflateIfNeededFor_a7421.cls ≠ "java/lang/invoke/MethodHandle" ∧ yJ5_inflateIfNeededFor_a7421.cls ≠ "java/lang/invoke/VarHandle" ∧ (parseMethodDescriptor yJ5_inflateIfNeededFor_a7421.desc).map (fun d => d.parameters.length) = some 1 := ⟨by decide +kernel, by decide +kernel, by decide +kernel⟩
set_option maxHeartbeats 4000000 in
set_option maxRecDepth 100000 in
theorem mB_inflate {l : Launch} {D : va_G} {G : Nat → ClassId} {ad : Nat → Nat} (hJ : qInj ad) {b v q : Nat} {n : Int32} {t : List Int32} : lCM l D G ad yJ5_inflateIfNeededFor_a7421 (Cond.code yJ5_inflateIfNeededFor_a7421 cJ5_inflateIfNeededFor_a7421 2 (none)) 2 0 0 [.ref b, .ref q] (lX [] [lob b v n] []) (qSt q t) (lQv (T := Unit) D ad (lX [] [lob b v n] []) (fun _ => lX [] [lob b v n] []) (fun _ => True)) := by
  refine l_start RJ5 rfl (by decide +kernel) hJ (fun a b h => by simp only [lQi, lQv, lQr, h]) (Nat.le_of_ble_eq_true rfl) ?_
  intro p e s m args below meth c ls hC hr hmi hE hR hl
  have hx := hC.1
  have hb := hC.2.1
  have hts := hC.2.2.2.2.1
  have hl : lv_has ls 2 [(0, .ref b), (1, .ref q)] := hl
  refine l_compact hC hR qkj_879 dJ5_inflateIfNeededFor_a7421_0 ?_
  refine lv_if_eq (tgt := 21) hx hb dJ5_inflateIfNeededFor_a7421_3 (by decide) (fun hbr => absurd hbr (by decide)) (fun hbr => ?_)
  refine lv_aload_n hx hb dJ5_inflateIfNeededFor_a7421_6 rfl (lv_at hl 0 rfl) ?_
  refine l_get (ref := "java/lang/AbstractStringBuilder") hC hR (lX_mx 0 rfl) (T := TJ4) (N := 4) (ci := 1) rfl qinJ4 1 (by decide) qkj_889 rfl rfl dJ5_inflateIfNeededFor_a7421_7 ?_
  refine lv_aload_n hx hb dJ5_inflateIfNeededFor_a7421_10 rfl (lv_at hl 1 rfl) ?_
  refine l_callVi hC hR (mB_coder hJ (q := q) (t := t)) qSt_k (l_now qSt_k hR hE) lp_0 lp_0.symm (qSt_rc (l_now qSt_k hR hE)) qkj_1054 qkj_1043 qkj_1044 qkj_34 qkj_1045 qhd_B_coder ⟨Nat.le_of_ble_eq_true rfl, Nat.le_of_ble_eq_true rfl⟩ hl.1 rfl (Nat.le_of_ble_eq_true rfl) dJ5_inflateIfNeededFor_a7421_11 ⟨Nat.le_of_ble_eq_true rfl, Nat.le_of_ble_eq_true rfl⟩ (fun H locs hR hkp => ?_)
  refine lv_icmp_eq (tgt := 21) hx hb dJ5_inflateIfNeededFor_a7421_14 (by decide) (fun hbr => ?_) (fun hbr => absurd (rfl) hbr)
  exact l_vret (X1 := fun (_ : Unit) => lX [] [lob b v n] []) () hC hR hr trivial rfl dJ5_inflateIfNeededFor_a7421_21 (Nat.le_of_ble_eq_true rfl) (Nat.le_of_ble_eq_true rfl)
theorem qhd_B_getBytes : yJ0_getBytes_840e7.cls ≠ "java/lang/invoke/MethodHandle" ∧ yJ0_getBytes_840e7.cls ≠ "java/lang/invoke/VarHandle" ∧ (parseMethodDescriptor yJ0_getBytes_840e7.desc).map (fun d => d.parameters.length) = some 3 := ⟨by decide +kernel, by decide +kernel, by decide +kernel⟩
set_option maxHeartbeats 4000000 in
set_option maxRecDepth 100000 in
theorem mB_getBytes {l : Launch} {D : va_G} {G : Nat → ClassId} {ad : Nat → Nat} (hJ : qInj ad) {q v k cap : Nat} {f : Nat → Int32} {t : List Int32} (hk : k + t.length ≤ cap) (hc : cap ≤ 130) : lCM l D G ad yJ0_getBytes_840e7 (Cond.code yJ0_getBytes_840e7 cJ0_getBytes_840e7 4 (none)) 2 0 0 [.ref q, .ref v, .int (nI k), .int 0] (lX [] [lby G v cap f] []) (qSt q t) (lQv (T := Unit) D ad (lX [] [lby G v cap f] []) (fun _ => lX [] [lby G v cap (va_cpy (fun j => t.getD j 0) f 0 k t.length)] []) (fun _ => True)) := by
  refine l_start RJ0 rfl (by decide +kernel) hJ (fun a b h => by simp only [lQi, lQv, lQr, h]) (Nat.le_of_ble_eq_true rfl) ?_
  intro p e s m args below meth c ls hC hr hmi hE hR hl
  have hx := hC.1
  have hb := hC.2.1
  have hts := hC.2.2.2.2.1
  have hl : lv_has ls 4 [(0, .ref q), (1, .ref v), (2, .int (nI k)), (3, .int 0)] := hl
  have hE0 := hE
  obtain ⟨hO, hc0, tv, hv, hasc, hT⟩ := hE0
  have htl := qasc_len hasc
  refine lv_aload_n hx hb dJ0_getBytes_840e7_0 rfl (lv_at hl 0 rfl) ?_
  refine l_callVi hC hR (mB_coder hJ (q := q) (t := t)) qSt_k (l_now qSt_k hR hE) lp_0 lp_0.symm (qSt_rc (l_now qSt_k hR hE)) qkj_1042 qkj_1043 qkj_1044 qkj_34 qkj_1045 qhd_B_coder ⟨Nat.le_of_ble_eq_true rfl, Nat.le_of_ble_eq_true rfl⟩ hl.1 rfl (Nat.le_of_ble_eq_true rfl) dJ0_getBytes_840e7_1 ⟨Nat.le_of_ble_eq_true rfl, Nat.le_of_ble_eq_true rfl⟩ (fun H locs hR hkp => ?_)
  refine lv_iload_n hx hb dJ0_getBytes_840e7_4 rfl (lv_at hl 3 rfl) ?_
  refine lv_icmp_ne (tgt := 28) hx hb dJ0_getBytes_840e7_5 (by decide) (fun hbr => absurd (rfl) hbr) (fun hbr => ?_)
  refine lv_aload_n hx hb dJ0_getBytes_840e7_8 rfl (lv_at hl 0 rfl) ?_
  refine l_ofs hC hR hv qkj_1140 rfl dJ0_getBytes_840e7_9 ?_
  refine lv_iconst (v := 0) hx hb dJ0_getBytes_840e7_12 (by decide) ?_
  refine lv_aload_n hx hb dJ0_getBytes_840e7_13 rfl (lv_at hl 1 rfl) ?_
  refine lv_iload_n hx hb dJ0_getBytes_840e7_14 rfl (lv_at hl 2 rfl) ?_
  refine lv_iload_n hx hb dJ0_getBytes_840e7_15 rfl (lv_at hl 3 rfl) ?_
  refine lv_ishl hx hb dJ0_getBytes_840e7_16 ?_
  refine l_eqi (x := ((nI k) <<< (0 &&& 31))) (y := nI k) (sb_shl0 _) ?_
  refine lv_aload_n hx hb dJ0_getBytes_840e7_17 rfl (lv_at hl 0 rfl) ?_
  refine l_ofs hC hR hv qkj_1140 rfl dJ0_getBytes_840e7_18 ?_
  refine l_tlen hC hR hT rfl dJ0_getBytes_840e7_21 ?_
  refine l_eqi (y := nI t.length) rfl ?_
  refine l_cpt (f := fun j => t.getD j 0) hC hR hT 0 rfl (by decide) (nI_pos (by omega)) (nI_pos (by omega)) (by rw [nI_clamp (n := t.length) (by omega), sb_cl0]; omega) (by rw [nI_clamp (n := t.length) (by omega), nI_clamp (n := k) (by omega)]; omega) (lfit_t hasc) qkj_1059 hl.1 (Nat.le_of_ble_eq_true rfl) (Nat.le_of_ble_eq_true rfl) dJ0_getBytes_840e7_22 (fun H locs hR => ?_)
  rw [nI_clamp (n := t.length) (by omega), nI_clamp (n := k) (by omega), sb_cl0] at hR
  have hR : lR D _ (lX [] [lby G v cap (va_cpy (fun j => t.getD j 0) f 0 k t.length)] []) s H locs := hR
  refine lv_goto (tgt := 43) hx hb dJ0_getBytes_840e7_25 (by decide) ?_
  exact l_vret (X1 := fun (_ : Unit) => lX [] [lby G v cap (va_cpy (fun j => t.getD j 0) f 0 k t.length)] []) () hC hR hr trivial rfl dJ0_getBytes_840e7_43 (Nat.le_of_ble_eq_true rfl) (Nat.le_of_ble_eq_true rfl)
theorem qhd_B_putString : yJ5_putStringAt_47b60.cls ≠ "java/lang/invoke/MethodHandle" ∧ yJ5_putStringAt_47b60.cls ≠ "java/lang/invoke/VarHandle" ∧ (parseMethodDescriptor yJ5_putStringAt_47b60.desc).map (fun d => d.parameters.length) = some 2 := ⟨by decide +kernel, by decide +kernel, by decide +kernel⟩
set_option maxHeartbeats 4000000 in
set_option maxRecDepth 100000 in
theorem mB_putString {l : Launch} {D : va_G} {G : Nat → ClassId} {ad : Nat → Nat} (hJ : qInj ad) {b q v k cap : Nat} {n : Int32} {f : Nat → Int32} {t : List Int32} (hk : k + t.length ≤ cap) (hc : cap ≤ 130) : lCM l D G ad yJ5_putStringAt_47b60 (Cond.code yJ5_putStringAt_47b60 cJ5_putStringAt_47b60 3 (none)) 3 0 0 [.ref b, .int (nI k), .ref q] (lX [] [lob b v n, lby G v cap f] []) (qSt q t) (lQv (T := Unit) D ad (lX [] [lob b v n, lby G v cap f] []) (fun _ => lX [] [lob b v n, lby G v cap (va_cpy (fun j => t.getD j 0) f 0 k t.length)] []) (fun _ => True)) := by
  refine l_start RJ5 rfl (by decide +kernel) hJ (fun a b h => by simp only [lQi, lQv, lQr, h]) (Nat.le_of_ble_eq_true rfl) ?_
  intro p e s m args below meth c ls hC hr hmi hE hR hl
  have hx := hC.1
  have hb := hC.2.1
  have hts := hC.2.2.2.2.1
  have hl : lv_has ls 3 [(0, .ref b), (1, .int (nI k)), (2, .ref q)] := hl
  refine lv_aload_n hx hb dJ5_putStringAt_47b60_0 rfl (lv_at hl 0 rfl) ?_
  refine lv_aload_n hx hb dJ5_putStringAt_47b60_1 rfl (lv_at hl 2 rfl) ?_
  refine l_callUv (C := RJ4) (x := yJ5_inflateIfNeededFor_a7421) hC hR (mB_inflate hJ (b := b) (v := v) (q := q) (n := n) (t := t)) qSt_k (l_now qSt_k hR hE) lp_O (fun _ => lp_O.symm) (l_recv hC hR (lX_mx 0 rfl) (ci := 1) rfl) qkj_1050 qkm_1353 (lsel_priv (x0 := yJ5_isLatin1_aae02) (hts _ qkj_984) rfl ⟨by decide, by decide⟩ (hC.2.2.2.2.2.2.2.2.2.2.2.2.2 _ (by decide)) (hts _ qkj_1052)) qkj_1052 qkj_38 qkj_1053 rfl qhd_B_inflate ⟨Nat.le_of_ble_eq_true rfl, Nat.le_of_ble_eq_true rfl⟩ hl.1 rfl (Nat.le_of_ble_eq_true rfl) dJ5_putStringAt_47b60_2 ⟨Nat.le_of_ble_eq_true rfl, Nat.le_of_ble_eq_true rfl⟩ (fun _ H locs _ hR hkp => ?_)
  refine lv_aload_n hx hb dJ5_putStringAt_47b60_5 rfl (lv_at hl 2 rfl) ?_
  refine lv_aload_n hx hb dJ5_putStringAt_47b60_6 rfl (lv_at hl 0 rfl) ?_
  refine l_get (ref := "java/lang/AbstractStringBuilder") hC hR (lX_mx 0 rfl) (T := TJ4) (N := 4) (ci := 1) rfl qinJ4 0 (by decide) qkj_888 rfl rfl dJ5_putStringAt_47b60_7 ?_
  refine lv_iload_n hx hb dJ5_putStringAt_47b60_10 rfl (lv_at hl 1 rfl) ?_
  refine lv_aload_n hx hb dJ5_putStringAt_47b60_11 rfl (lv_at hl 0 rfl) ?_
  refine l_get (ref := "java/lang/AbstractStringBuilder") hC hR (lX_mx 0 rfl) (T := TJ4) (N := 4) (ci := 1) rfl qinJ4 1 (by decide) qkj_889 rfl rfl dJ5_putStringAt_47b60_12 ?_
  have hR := lR_pick hR [1, 0] (ex1 := [lby G v cap f, lob b v n]) (g1 := []) (by decide) rfl (Or.inl rfl)
  refine l_callVv hC hR (mB_getBytes hJ (q := q) (v := v) (k := k) (cap := cap) (f := f) (t := t) hk hc) qSt_k (l_now qSt_k hR hE) lp_O (fun _ => lp_O.symm) (qSt_rc (l_now qSt_k hR hE)) qkj_1055 qkj_1056 qkj_1057 qkj_34 qkj_1058 qhd_B_getBytes ⟨Nat.le_of_ble_eq_true rfl, Nat.le_of_ble_eq_true rfl⟩ hl.1 rfl (Nat.le_of_ble_eq_true rfl) dJ5_putStringAt_47b60_15 ⟨Nat.le_of_ble_eq_true rfl, Nat.le_of_ble_eq_true rfl⟩ (fun _ H locs _ hR hkp => ?_)
  have hR := lR_pick hR [1, 0] (ex1 := [lob b v n, lby G v cap (va_cpy (fun j => t.getD j 0) f 0 k t.length)]) (g1 := []) (by decide) rfl (Or.inl rfl)
  exact l_vret (X1 := fun (_ : Unit) => lX [] [lob b v n, lby G v cap (va_cpy (fun j => t.getD j 0) f 0 k t.length)] []) () hC hR hr trivial rfl dJ5_putStringAt_47b60_18 (Nat.le_of_ble_eq_true rfl) (Nat.le_of_ble_eq_true rfl)
theorem qhd_B_aps5 : yJ5_append_cf1ce.cls ≠ "java/lang/invoke/MethodHandle" ∧ yJ5_append_cf1ce.cls ≠ "java/lang/invoke/VarHandle" ∧ (parseMethodDescriptor yJ5_append_cf1ce.desc).map (fun d => d.parameters.length) = some 1 := ⟨by decide +kernel, by decide +kernel, by decide +kernel⟩
set_option maxHeartbeats 4000000 in
set_option maxRecDepth 100000 in
theorem mB_aps5 {l : Launch} {D : va_G} {G : Nat → ClassId} {ad : Nat → Nat} (hJ : qInj ad) {b v cap n q : Nat} {f : Nat → Int32} {t : List Int32} (hn : n + t.length ≤ 60) (hnc : n ≤ cap) (hc : cap ≤ 130) (hf : sb_Fit f) : lCM l D G ad yJ5_append_cf1ce (Cond.code yJ5_append_cf1ce cJ5_append_cf1ce 3 (some (.object "java/lang/AbstractStringBuilder"))) 5 1 130 [.ref b, .ref q] (lX [] [lob b v (nI n), lby G v cap f] []) (qSt q t) (lQr (T := Nat × Nat × (Nat → Int32)) D ad (lX [] [lob b v (nI n), lby G v cap f] []) (fun u _ => lX [] [lob b u.1 (nI (n + t.length)), lby G u.1 u.2.1 u.2.2] []) (fun u a => a = b ∧ u.2.1 = lcap (n + t.length) cap ∧ (∀ j, j < n → u.2.2 j = f j) ∧ (∀ j, j < t.length → u.2.2 (n + j) = t.getD j 0) ∧ sb_Fit u.2.2) (fun _ _ _ _ _ => True)) := by
  refine l_start RJ5 rfl (by decide +kernel) hJ (fun a b h => by simp only [lQi, lQv, lQr, h]) (Nat.le_of_ble_eq_true rfl) ?_
  intro p e s m args below meth c ls hC hr hmi hE hR hl
  have hx := hC.1
  have hb := hC.2.1
  have hts := hC.2.2.2.2.1
  have hl : lv_has ls 3 [(0, .ref b), (1, .ref q)] := hl
  have hasc : qasc t = true := by obtain ⟨-, -, tv, -, h, -⟩ := hE; exact h
  refine lv_aload_n hx hb dJ5_append_cf1ce_0 rfl (lv_at hl 1 rfl) ?_
  refine lv_ifnonnull (tgt := 9) hx hb dJ5_append_cf1ce_1 (by decide) ?_
  refine lv_aload_n hx hb dJ5_append_cf1ce_9 rfl (lv_at hl 1 rfl) ?_
  refine l_callVi hC hR (mB_slen hJ (q := q) (t := t)) qSt_k (l_now qSt_k hR hE) lp_0 lp_0.symm (qSt_rc (l_now qSt_k hR hE)) qkj_1038 qkj_1039 qkj_1040 qkj_34 qkj_1041 qhd_B_slen ⟨Nat.le_of_ble_eq_true rfl, Nat.le_of_ble_eq_true rfl⟩ hl.1 rfl (Nat.le_of_ble_eq_true rfl) dJ5_append_cf1ce_10 ⟨Nat.le_of_ble_eq_true rfl, Nat.le_of_ble_eq_true rfl⟩ (fun H locs hR hkp => ?_)
  refine lv_istore_n (lv' := [(2, .int (nI t.length)), (0, .ref b), (1, .ref q)]) hx hb dJ5_append_cf1ce_13 rfl hl (by decide) rfl (fun ls hl => ?_)
  refine lv_aload_n hx hb dJ5_append_cf1ce_14 rfl (lv_at hl 1 rfl) ?_
  refine lv_aload_n hx hb dJ5_append_cf1ce_15 rfl (lv_at hl 1 rfl) ?_
  refine l_get (ref := "java/lang/AbstractStringBuilder") hC hR (lX_mx 0 rfl) (T := TJ4) (N := 4) (ci := 1) rfl qinJ4 3 (by decide) qkj_891 rfl rfl dJ5_append_cf1ce_16 ?_
  refine lv_iload_n hx hb dJ5_append_cf1ce_19 rfl (lv_at hl 0 rfl) ?_
  refine lv_iadd hx hb dJ5_append_cf1ce_20 ?_
  refine l_eqi (x := ((nI n) + (nI t.length))) (y := nI (n + t.length)) (nI_add _ _) ?_
  refine l_callUv (C := RJ4) (x := yJ5_ensureCapacityInternal_d00df) hC hR (mB_ensure hJ (b := b) (v := v) (cap := cap) (q := n + t.length) (n := nI n) (f := f) (by omega) hc hf) lNo_k trivial lp_id (fun _ => lp_id1) (l_recv hC hR (lX_mx 0 rfl) (ci := 1) rfl) qkj_948 qkm_1347 (lsel_priv (x0 := yJ5_isLatin1_aae02) (hts _ qkj_984) rfl ⟨by decide, by decide⟩ (hC.2.2.2.2.2.2.2.2.2.2.2.2.2 _ (by decide)) (hts _ qkj_950)) qkj_950 qkj_38 qkj_951 rfl qhd_B_ensure ⟨Nat.le_of_ble_eq_true rfl, Nat.le_of_ble_eq_true rfl⟩ hl.1 rfl (Nat.le_of_ble_eq_true rfl) dJ5_append_cf1ce_21 ⟨Nat.le_of_ble_eq_true rfl, Nat.le_of_ble_eq_true rfl⟩ (fun u H locs hY hR hkp => ?_)
  obtain ⟨v1, c1, f1⟩ := u
  obtain ⟨y1, y2, y3⟩ := hY
  dsimp only at y1 y2 y3 hR
  have hlc := lcap_b (q := n + t.length) (cap := cap) (by omega) hc
  rw [← y1] at hlc
  refine lv_aload_n hx hb dJ5_append_cf1ce_24 rfl (lv_at hl 1 rfl) ?_
  refine lv_aload_n hx hb dJ5_append_cf1ce_25 rfl (lv_at hl 1 rfl) ?_
  refine l_get (ref := "java/lang/AbstractStringBuilder") hC hR (lX_mx 0 rfl) (T := TJ4) (N := 4) (ci := 1) rfl qinJ4 3 (by decide) qkj_891 rfl rfl dJ5_append_cf1ce_26 ?_
  refine lv_aload_n hx hb dJ5_append_cf1ce_29 rfl (lv_at hl 2 rfl) ?_
  refine l_callUv (C := RJ4) (x := yJ5_putStringAt_47b60) hC hR (mB_putString hJ (b := b) (q := q) (v := v1) (k := n) (cap := c1) (n := nI n) (f := f1) (t := t) (by omega) (by omega)) qSt_k (l_now qSt_k hR hE) lp_id (fun _ => lp_id1) (l_recv hC hR (lX_mx 0 rfl) (ci := 1) rfl) qkj_1046 qkm_1352 (lsel_priv (x0 := yJ5_isLatin1_aae02) (hts _ qkj_984) rfl ⟨by decide, by decide⟩ (hC.2.2.2.2.2.2.2.2.2.2.2.2.2 _ (by decide)) (hts _ qkj_1048)) qkj_1048 qkj_38 qkj_1049 rfl qhd_B_putString ⟨Nat.le_of_ble_eq_true rfl, Nat.le_of_ble_eq_true rfl⟩ hl.1 rfl (Nat.le_of_ble_eq_true rfl) dJ5_append_cf1ce_30 ⟨Nat.le_of_ble_eq_true rfl, Nat.le_of_ble_eq_true rfl⟩ (fun _ H locs _ hR hkp => ?_)
  refine lv_aload_n hx hb dJ5_append_cf1ce_33 rfl (lv_at hl 1 rfl) ?_
  refine lv_dup hx hb dJ5_append_cf1ce_34 rfl ?_
  refine l_get (ref := "java/lang/AbstractStringBuilder") hC hR (lX_mx 0 rfl) (T := TJ4) (N := 4) (ci := 1) rfl qinJ4 3 (by decide) qkj_891 rfl rfl dJ5_append_cf1ce_35 ?_
  refine lv_iload_n hx hb dJ5_append_cf1ce_38 rfl (lv_at hl 0 rfl) ?_
  refine lv_iadd hx hb dJ5_append_cf1ce_39 ?_
  refine l_eqi (x := ((nI n) + (nI t.length))) (y := nI (n + t.length)) (nI_add _ _) ?_
  refine l_put (ref := "java/lang/AbstractStringBuilder") hC hR 0 rfl (T := TJ4) (N := 4) (ci := 1) (ty := .int) rfl qinJ4 tyJ4 tyJ4_ok nmJ4 3 (by decide) qkj_891 rfl rfl (by decide +kernel) rfl rfl (Nat.le_of_ble_eq_true rfl) dJ5_append_cf1ce_40 (fun H locs hR => ?_)
  have hR : lR D _ (lX [] [lob b v1 (nI (n + t.length)), lby G v1 c1 (va_cpy (fun j => t.getD j 0) f1 0 n t.length)] []) s H locs := hR
  refine lv_aload_n hx hb dJ5_append_cf1ce_43 rfl (lv_at hl 1 rfl) ?_
  refine l_aret (T := Nat × Nat × (Nat → Int32)) (F := fun _ _ _ _ _ => True) (X1 := (fun u _ => lX [] [lob b u.1 (nI (n + t.length)), lby G u.1 u.2.1 u.2.2] [])) (Y := (fun u a => a = b ∧ u.2.1 = lcap (n + t.length) cap ∧ (∀ j, j < n → u.2.2 j = f j) ∧ (∀ j, j < t.length → u.2.2 (n + j) = t.getD j 0) ∧ sb_Fit u.2.2)) (v1, c1, va_cpy (fun j => t.getD j 0) f1 0 n t.length) hC hR hr (Or.inl ⟨_, rfl⟩) ⟨rfl, y1, fun j hj => by show va_cpy (fun j => t.getD j 0) f1 0 n t.length j = f j; rw [pk_cpy_out (by omega)]; exact y2 j (by omega), fun j hj => by show va_cpy (fun j => t.getD j 0) f1 0 n t.length (n + j) = t.getD j 0; rw [pk_cpy_in (by omega) (by omega)]; show t.getD (0 + (n + j - n)) 0 = _; rw [show 0 + (n + j - n) = j by omega], sb_fitC (lfit_t hasc) y3⟩ rfl (fun _ _ _ _ _ _ _ _ _ _ => trivial) trivial dJ5_append_cf1ce_44 ?_ ?_ <;> omega
theorem qhd_B_aps : yJ4_append_15ec4.cls ≠ "java/lang/invoke/MethodHandle" ∧ yJ4_append_15ec4.cls ≠ "java/lang/invoke/VarHandle" ∧ (parseMethodDescriptor yJ4_append_15ec4.desc).map (fun d => d.parameters.length) = some 1 := ⟨by decide +kernel, by decide +kernel, by decide +kernel⟩
set_option maxHeartbeats 4000000 in
set_option maxRecDepth 100000 in
theorem mB_aps {l : Launch} {D : va_G} {G : Nat → ClassId} {ad : Nat → Nat} (hJ : qInj ad) {b v cap n q : Nat} {f : Nat → Int32} {t : List Int32} (hn : n + t.length ≤ 60) (hnc : n ≤ cap) (hc : cap ≤ 130) (hf : sb_Fit f) : lCM l D G ad yJ4_append_15ec4 (Cond.code yJ4_append_15ec4 cJ4_append_15ec4 2 (some (.object "java/lang/StringBuilder"))) 6 1 130 [.ref b, .ref q] (lX [] [lob b v (nI n), lby G v cap f] []) (qSt q t) (lQr (T := Nat × Nat × (Nat → Int32)) D ad (lX [] [lob b v (nI n), lby G v cap f] []) (fun u _ => lX [] [lob b u.1 (nI (n + t.length)), lby G u.1 u.2.1 u.2.2] []) (fun u a => a = b ∧ u.2.1 = lcap (n + t.length) cap ∧ (∀ j, j < n → u.2.2 j = f j) ∧ (∀ j, j < t.length → u.2.2 (n + j) = t.getD j 0) ∧ sb_Fit u.2.2) (fun _ _ _ _ _ => True)) := by
  refine l_start RJ4 rfl (by decide +kernel) hJ (fun a b h => by simp only [lQi, lQv, lQr, h]) (Nat.le_of_ble_eq_true rfl) ?_
  intro p e s m args below meth c ls hC hr hmi hE hR hl
  have hx := hC.1
  have hb := hC.2.1
  have hts := hC.2.2.2.2.1
  have hl : lv_has ls 2 [(0, .ref b), (1, .ref q)] := hl
  refine lv_aload_n hx hb dJ4_append_15ec4_0 rfl (lv_at hl 0 rfl) ?_
  refine lv_aload_n hx hb dJ4_append_15ec4_1 rfl (lv_at hl 1 rfl) ?_
  refine l_callSUr (C := RJ4) hC hR (mB_aps5 hJ (v := v) (cap := cap) (f := f) (t := t) hn hnc hc hf) qSt_k (l_now qSt_k hR hE) lp_id (fun _ _ => lp_id1) (l_recv hC hR (lX_mx 0 rfl) (ci := 1) rfl) ⟨_, (hC.2.2.2.2.2.2.1.1 1 _ rfl).2⟩ qkj_1019 qkm_1350 qkm_900 qkj_1020 qkj_38 qkj_1021 ⟨by decide, qhd_B_aps5.2.2⟩ ⟨Nat.le_of_ble_eq_true rfl, Nat.le_of_ble_eq_true rfl⟩ hl.1 rfl (Nat.le_of_ble_eq_true rfl) dJ4_append_15ec4_2 ⟨Nat.le_of_ble_eq_true rfl, Nat.le_of_ble_eq_true rfl⟩ (fun _ _ => lNo_k) (fun u a1 H locs hY hR hkp _ => ?_)
  refine lv_pop hx hb dJ4_append_15ec4_5 rfl ?_
  refine lv_aload_n hx hb dJ4_append_15ec4_6 rfl (lv_at hl 0 rfl) ?_
  refine l_aret (T := Nat × Nat × (Nat → Int32)) (F := fun _ _ _ _ _ => True) (X1 := (fun u _ => lX [] [lob b u.1 (nI (n + t.length)), lby G u.1 u.2.1 u.2.2] [])) (Y := (fun u a => a = b ∧ u.2.1 = lcap (n + t.length) cap ∧ (∀ j, j < n → u.2.2 j = f j) ∧ (∀ j, j < t.length → u.2.2 (n + j) = t.getD j 0) ∧ sb_Fit u.2.2)) u hC hR hr (Or.inl ⟨_, rfl⟩) ⟨rfl, hY.2⟩ rfl (fun _ _ _ _ _ _ _ _ _ _ => trivial) trivial dJ4_append_15ec4_7 ?_ ?_ <;> omega
