def fL_cup (w : qMem) (a1 : Int32) (a2 : Int32) : Option (Int32 × Int32 × qMem) := qlh [1, 2] (0 : Int32) (fX5_cup w a1 a2)
theorem qhd_L_cup : yL_cup.cls ≠ "java/lang/invoke/MethodHandle" ∧ yL_cup.cls ≠ "java/lang/invoke/VarHandle" ∧ (parseMethodDescriptor yL_cup.desc).map (fun d => d.parameters.length) = some 4 := ⟨by decide +kernel, by decide +kernel, by decide +kernel⟩
set_option maxHeartbeats 4000000 in
set_option maxRecDepth 100000 in
theorem mL_cup {l : Launch} {D : va_G} {G : Nat → ClassId} {ad : Nat → Nat} (hJ : qInj ad) (hst : l.stackTraces = false) {w : qMem} {a1 : Int32} {a2 : Int32} {kF : Int32} {rF : Int32} {wF : qMem} {o : Nat} {cA : ClassId} {f0 : Nat → Int64} (hf : fL_cup w a1 a2 = some (kF, rF, wF)) : qHL l D G ad yL_cup cL_cup 5 [(0, 10, 13, 13), (0, 10, 17, 15)] 10 1 6 [.ref (ad 228), .int a1, .int a2, .ref o] w o cA .long (1, .inr (.inl f0)) kF (qPL kF rF.toInt64) wF := by
  obtain ⟨cE, r0, h0, hcase⟩ := qlh_s hf
  refine q_startL rfl (by decide +kernel) hJ (Nat.le_of_ble_eq_true rfl) ?_
  intro p e s m args below meth c0 ls hC hr hT hO0 hR hl
  have hx := hC.1
  have hb := hC.2.1
  have hts := hC.2.2.2.2.1
  have hown := hC.2.2.2.1
  have hl : lv_has ls 5 [(0, .ref (ad 228)), (1, .int a1), (2, .int a2), (3, .ref o)] := hl
  have hO : qOut o cA .long (1, .inr (.inl f0)) (qAdr ad s.heap.size) s s.heap := hO0
  refine lv_aload_n hx hb dL_cup_0 rfl (lv_at hl 3 rfl) ?_
  refine lv_iconst (v := 0) hx hb dL_cup_1 (by decide) ?_
  refine lv_aload_n hx hb dL_cup_2 rfl (lv_at hl 0 rfl) ?_
  refine lv_iload_n hx hb dL_cup_3 rfl (lv_at hl 1 rfl) ?_
  refine lv_iload_n hx hb dL_cup_4 rfl (lv_at hl 2 rfl) ?_
  refine qx_ki (As := [.int a1, .int a2]) (rest := [.int 0, .ref o]) hC hR (mX5_cup hJ hst h0) (by decide) (qsh_228 G ad _) rfl qkl_547 qk_548 qk_549 qk_58 qk_550 qhd_X5_cup ⟨Nat.le_of_ble_eq_true rfl, Nat.le_of_ble_eq_true rfl⟩ hl.1 rfl (Nat.le_of_ble_eq_true rfl) dL_cup_5 ⟨Nat.le_of_ble_eq_true rfl, Nat.le_of_ble_eq_true rfl⟩ (fun hne H locs ce q9 hz hk hR hce hcv hcl => ?_) (fun hc0 H locs hz hk hR => ?_)
  · have hO := qX_on qOut_k hO hz hk
    rcases hcase with ⟨h1, h2, h3⟩ | ⟨h1, h2, h3⟩ | ⟨h1, h2, h3⟩ | ⟨h1, h2, h3⟩
    · exact absurd h1 hne
    · have hcl2 : s.vm.findClass "java/lang/IllegalArgumentException" = some ce.cls := by rw [h2] at hcl; exact hcl
      refine vx_catch (own := RL) (name := "java/lang/IllegalArgumentException") (E := "java/lang/IllegalArgumentException") hown [] ⟨0, 10, 13, 13⟩ [⟨0, 10, 17, 15⟩] hT (fun z hz => by cases hz) (by decide) (by decide) (hts _ qkl_545) (va_Nw.use (q_kp_tab (List.mem_filter.mp qkc_13).2) (hC.2.2.2.2.2.2.2.2.2.2.2.2 _ qkc_13)) hce hcv hcl2 ?_
      refine lv_astore (lv' := [(4, .ref q9), (0, .ref (ad 228)), (1, .int a1), (2, .int a2), (3, .ref o)]) hx hb dL_cup_13 hl (by decide) rfl (fun ls hl => ?_)
      refine lv_iconst (v := 1) hx hb dL_cup_15 (by decide) ?_
      exact q_endL hC hR.1 (qS_do hR) hO ⟨f0, rfl, fun h => absurd (h3.symm.trans h) (by decide)⟩ rfl hr h3.symm (Nat.le_of_ble_eq_true rfl) (Nat.le_of_ble_eq_true rfl) dL_cup_16
    · have hcl2 : s.vm.findClass "java/lang/UnsupportedOperationException" = some ce.cls := by rw [h2] at hcl; exact hcl
      refine vx_catch (own := RL) (name := "java/lang/UnsupportedOperationException") (E := "java/lang/UnsupportedOperationException") hown [⟨0, 10, 13, 13⟩] ⟨0, 10, 17, 15⟩ [] hT (fun z hz => by
        simp only [List.mem_cons, List.mem_nil_iff, or_false] at hz
        rcases hz with rfl
        · exact Or.inr ⟨by decide, "java/lang/IllegalArgumentException", hts _ qkl_545, hO0.1.1⟩) (by decide) (by decide) (hts _ qkl_546) (va_Nw.use (q_kp_tab (List.mem_filter.mp qkc_15).2) (hC.2.2.2.2.2.2.2.2.2.2.2.2 _ qkc_15)) hce hcv hcl2 ?_
      refine lv_astore (lv' := [(4, .ref q9), (0, .ref (ad 228)), (1, .int a1), (2, .int a2), (3, .ref o)]) hx hb dL_cup_17 hl (by decide) rfl (fun ls hl => ?_)
      refine lv_iconst (v := 2) hx hb dL_cup_19 (by decide) ?_
      exact q_endL hC hR.1 (qS_do hR) hO ⟨f0, rfl, fun h => absurd (h3.symm.trans h) (by decide)⟩ rfl hr h3.symm (Nat.le_of_ble_eq_true rfl) (Nat.le_of_ble_eq_true rfl) dL_cup_20
    · exact absurd h2 (by rw [show ([1, 2] : List Nat).getD 2 0 = 0 from rfl]; exact h1)
  · have hO := qX_on qOut_k hO hz hk
    have hk0 : kF = 0 ∧ rF = r0 := by
      rcases hcase with ⟨h1, h2, h3⟩ | ⟨h1, h2, h3⟩ | ⟨h1, h2, h3⟩ | ⟨h1, h2, h3⟩
      · exact ⟨h2, h3⟩
      · exact absurd hc0 h1
      · exact absurd hc0 h1
      · exact absurd hc0 h1
    obtain ⟨hk0, rfl⟩ := hk0
    refine lv_i2l hx hb dL_cup_8 rfl ?_
    refine q_outL hC hR hO dL_cup_9 (fun H locs hP hS hO => ?_)
    refine lv_goto (tgt := 21) hx hb dL_cup_10 (by decide) ?_
    refine lv_iconst (v := 0) hx hb dL_cup_21 (by decide) ?_
    exact q_endL hC hP hS hO ⟨_, rfl, fun _ => rfl⟩ rfl hr hk0.symm (Nat.le_of_ble_eq_true rfl) (Nat.le_of_ble_eq_true rfl) dL_cup_22
def fL_lamp (w : qMem) (a1 : Int32) (a2 : Int32) : Option (Int32 × Int32 × qMem) := qlh [1, 2] (0 : Int32) (fX5_lamp w a1 a2)
theorem qhd_L_lamp : yL_lamp.cls ≠ "java/lang/invoke/MethodHandle" ∧ yL_lamp.cls ≠ "java/lang/invoke/VarHandle" ∧ (parseMethodDescriptor yL_lamp.desc).map (fun d => d.parameters.length) = some 4 := ⟨by decide +kernel, by decide +kernel, by decide +kernel⟩
set_option maxHeartbeats 4000000 in
set_option maxRecDepth 100000 in
theorem mL_lamp {l : Launch} {D : va_G} {G : Nat → ClassId} {ad : Nat → Nat} (hJ : qInj ad) (hst : l.stackTraces = false) {w : qMem} {a1 : Int32} {a2 : Int32} {kF : Int32} {rF : Int32} {wF : qMem} {o : Nat} {cA : ClassId} {f0 : Nat → Int64} (hf : fL_lamp w a1 a2 = some (kF, rF, wF)) : qHL l D G ad yL_lamp cL_lamp 5 [(0, 10, 13, 13), (0, 10, 17, 15)] 10 1 6 [.ref (ad 228), .int a1, .int a2, .ref o] w o cA .long (1, .inr (.inl f0)) kF (qPL kF rF.toInt64) wF := by
  obtain ⟨cE, r0, h0, hcase⟩ := qlh_s hf
  refine q_startL rfl (by decide +kernel) hJ (Nat.le_of_ble_eq_true rfl) ?_
  intro p e s m args below meth c0 ls hC hr hT hO0 hR hl
  have hx := hC.1
  have hb := hC.2.1
  have hts := hC.2.2.2.2.1
  have hown := hC.2.2.2.1
  have hl : lv_has ls 5 [(0, .ref (ad 228)), (1, .int a1), (2, .int a2), (3, .ref o)] := hl
  have hO : qOut o cA .long (1, .inr (.inl f0)) (qAdr ad s.heap.size) s s.heap := hO0
  refine lv_aload_n hx hb dL_lamp_0 rfl (lv_at hl 3 rfl) ?_
  refine lv_iconst (v := 0) hx hb dL_lamp_1 (by decide) ?_
  refine lv_aload_n hx hb dL_lamp_2 rfl (lv_at hl 0 rfl) ?_
  refine lv_iload_n hx hb dL_lamp_3 rfl (lv_at hl 1 rfl) ?_
  refine lv_iload_n hx hb dL_lamp_4 rfl (lv_at hl 2 rfl) ?_
  refine qx_ki (As := [.int a1, .int a2]) (rest := [.int 0, .ref o]) hC hR (mX5_lamp hJ hst h0) (by decide) (qsh_228 G ad _) rfl qkl_646 qk_647 qk_648 qk_58 qk_649 qhd_X5_lamp ⟨Nat.le_of_ble_eq_true rfl, Nat.le_of_ble_eq_true rfl⟩ hl.1 rfl (Nat.le_of_ble_eq_true rfl) dL_lamp_5 ⟨Nat.le_of_ble_eq_true rfl, Nat.le_of_ble_eq_true rfl⟩ (fun hne H locs ce q9 hz hk hR hce hcv hcl => ?_) (fun hc0 H locs hz hk hR => ?_)
  · have hO := qX_on qOut_k hO hz hk
    rcases hcase with ⟨h1, h2, h3⟩ | ⟨h1, h2, h3⟩ | ⟨h1, h2, h3⟩ | ⟨h1, h2, h3⟩
    · exact absurd h1 hne
    · have hcl2 : s.vm.findClass "java/lang/IllegalArgumentException" = some ce.cls := by rw [h2] at hcl; exact hcl
      refine vx_catch (own := RL) (name := "java/lang/IllegalArgumentException") (E := "java/lang/IllegalArgumentException") hown [] ⟨0, 10, 13, 13⟩ [⟨0, 10, 17, 15⟩] hT (fun z hz => by cases hz) (by decide) (by decide) (hts _ qkl_545) (va_Nw.use (q_kp_tab (List.mem_filter.mp qkc_13).2) (hC.2.2.2.2.2.2.2.2.2.2.2.2 _ qkc_13)) hce hcv hcl2 ?_
      refine lv_astore (lv' := [(4, .ref q9), (0, .ref (ad 228)), (1, .int a1), (2, .int a2), (3, .ref o)]) hx hb dL_lamp_13 hl (by decide) rfl (fun ls hl => ?_)
      refine lv_iconst (v := 1) hx hb dL_lamp_15 (by decide) ?_
      exact q_endL hC hR.1 (qS_do hR) hO ⟨f0, rfl, fun h => absurd (h3.symm.trans h) (by decide)⟩ rfl hr h3.symm (Nat.le_of_ble_eq_true rfl) (Nat.le_of_ble_eq_true rfl) dL_lamp_16
    · have hcl2 : s.vm.findClass "java/lang/UnsupportedOperationException" = some ce.cls := by rw [h2] at hcl; exact hcl
      refine vx_catch (own := RL) (name := "java/lang/UnsupportedOperationException") (E := "java/lang/UnsupportedOperationException") hown [⟨0, 10, 13, 13⟩] ⟨0, 10, 17, 15⟩ [] hT (fun z hz => by
        simp only [List.mem_cons, List.mem_nil_iff, or_false] at hz
        rcases hz with rfl
        · exact Or.inr ⟨by decide, "java/lang/IllegalArgumentException", hts _ qkl_545, hO0.1.1⟩) (by decide) (by decide) (hts _ qkl_546) (va_Nw.use (q_kp_tab (List.mem_filter.mp qkc_15).2) (hC.2.2.2.2.2.2.2.2.2.2.2.2 _ qkc_15)) hce hcv hcl2 ?_
      refine lv_astore (lv' := [(4, .ref q9), (0, .ref (ad 228)), (1, .int a1), (2, .int a2), (3, .ref o)]) hx hb dL_lamp_17 hl (by decide) rfl (fun ls hl => ?_)
      refine lv_iconst (v := 2) hx hb dL_lamp_19 (by decide) ?_
      exact q_endL hC hR.1 (qS_do hR) hO ⟨f0, rfl, fun h => absurd (h3.symm.trans h) (by decide)⟩ rfl hr h3.symm (Nat.le_of_ble_eq_true rfl) (Nat.le_of_ble_eq_true rfl) dL_lamp_20
    · exact absurd h2 (by rw [show ([1, 2] : List Nat).getD 2 0 = 0 from rfl]; exact h1)
  · have hO := qX_on qOut_k hO hz hk
    have hk0 : kF = 0 ∧ rF = r0 := by
      rcases hcase with ⟨h1, h2, h3⟩ | ⟨h1, h2, h3⟩ | ⟨h1, h2, h3⟩ | ⟨h1, h2, h3⟩
      · exact ⟨h2, h3⟩
      · exact absurd hc0 h1
      · exact absurd hc0 h1
      · exact absurd hc0 h1
    obtain ⟨hk0, rfl⟩ := hk0
    refine lv_i2l hx hb dL_lamp_8 rfl ?_
    refine q_outL hC hR hO dL_lamp_9 (fun H locs hP hS hO => ?_)
    refine lv_goto (tgt := 21) hx hb dL_lamp_10 (by decide) ?_
    refine lv_iconst (v := 0) hx hb dL_lamp_21 (by decide) ?_
    exact q_endL hC hP hS hO ⟨_, rfl, fun _ => rfl⟩ rfl hr hk0.symm (Nat.le_of_ble_eq_true rfl) (Nat.le_of_ble_eq_true rfl) dL_lamp_22
def fL_cat (w : qMem) (a1 : Int32) (a2 : Int32) : Option (Int32 × Int32 × qMem) := qlh [1, 2] (0 : Int32) (fX5_cat w a1 a2)
theorem qhd_L_cat : yL_cat.cls ≠ "java/lang/invoke/MethodHandle" ∧ yL_cat.cls ≠ "java/lang/invoke/VarHandle" ∧ (parseMethodDescriptor yL_cat.desc).map (fun d => d.parameters.length) = some 4 := ⟨by decide +kernel, by decide +kernel, by decide +kernel⟩
set_option maxHeartbeats 4000000 in
set_option maxRecDepth 100000 in
theorem mL_cat {l : Launch} {D : va_G} {G : Nat → ClassId} {ad : Nat → Nat} (hJ : qInj ad) (hst : l.stackTraces = false) {w : qMem} {a1 : Int32} {a2 : Int32} {kF : Int32} {rF : Int32} {wF : qMem} {o : Nat} {cA : ClassId} {f0 : Nat → Int64} (hf : fL_cat w a1 a2 = some (kF, rF, wF)) : qHL l D G ad yL_cat cL_cat 5 [(0, 10, 13, 13), (0, 10, 17, 15)] 10 1 6 [.ref (ad 228), .int a1, .int a2, .ref o] w o cA .long (1, .inr (.inl f0)) kF (qPL kF rF.toInt64) wF := by
  obtain ⟨cE, r0, h0, hcase⟩ := qlh_s hf
  refine q_startL rfl (by decide +kernel) hJ (Nat.le_of_ble_eq_true rfl) ?_
  intro p e s m args below meth c0 ls hC hr hT hO0 hR hl
  have hx := hC.1
  have hb := hC.2.1
  have hts := hC.2.2.2.2.1
  have hown := hC.2.2.2.1
  have hl : lv_has ls 5 [(0, .ref (ad 228)), (1, .int a1), (2, .int a2), (3, .ref o)] := hl
  have hO : qOut o cA .long (1, .inr (.inl f0)) (qAdr ad s.heap.size) s s.heap := hO0
  refine lv_aload_n hx hb dL_cat_0 rfl (lv_at hl 3 rfl) ?_
  refine lv_iconst (v := 0) hx hb dL_cat_1 (by decide) ?_
  refine lv_aload_n hx hb dL_cat_2 rfl (lv_at hl 0 rfl) ?_
  refine lv_iload_n hx hb dL_cat_3 rfl (lv_at hl 1 rfl) ?_
  refine lv_iload_n hx hb dL_cat_4 rfl (lv_at hl 2 rfl) ?_
  refine qx_ki (As := [.int a1, .int a2]) (rest := [.int 0, .ref o]) hC hR (mX5_cat hJ hst h0) (by decide) (qsh_228 G ad _) rfl qkl_653 qk_654 qk_655 qk_58 qk_656 qhd_X5_cat ⟨Nat.le_of_ble_eq_true rfl, Nat.le_of_ble_eq_true rfl⟩ hl.1 rfl (Nat.le_of_ble_eq_true rfl) dL_cat_5 ⟨Nat.le_of_ble_eq_true rfl, Nat.le_of_ble_eq_true rfl⟩ (fun hne H locs ce q9 hz hk hR hce hcv hcl => ?_) (fun hc0 H locs hz hk hR => ?_)
  · have hO := qX_on qOut_k hO hz hk
    rcases hcase with ⟨h1, h2, h3⟩ | ⟨h1, h2, h3⟩ | ⟨h1, h2, h3⟩ | ⟨h1, h2, h3⟩
    · exact absurd h1 hne
    · have hcl2 : s.vm.findClass "java/lang/IllegalArgumentException" = some ce.cls := by rw [h2] at hcl; exact hcl
      refine vx_catch (own := RL) (name := "java/lang/IllegalArgumentException") (E := "java/lang/IllegalArgumentException") hown [] ⟨0, 10, 13, 13⟩ [⟨0, 10, 17, 15⟩] hT (fun z hz => by cases hz) (by decide) (by decide) (hts _ qkl_545) (va_Nw.use (q_kp_tab (List.mem_filter.mp qkc_13).2) (hC.2.2.2.2.2.2.2.2.2.2.2.2 _ qkc_13)) hce hcv hcl2 ?_
      refine lv_astore (lv' := [(4, .ref q9), (0, .ref (ad 228)), (1, .int a1), (2, .int a2), (3, .ref o)]) hx hb dL_cat_13 hl (by decide) rfl (fun ls hl => ?_)
      refine lv_iconst (v := 1) hx hb dL_cat_15 (by decide) ?_
      exact q_endL hC hR.1 (qS_do hR) hO ⟨f0, rfl, fun h => absurd (h3.symm.trans h) (by decide)⟩ rfl hr h3.symm (Nat.le_of_ble_eq_true rfl) (Nat.le_of_ble_eq_true rfl) dL_cat_16
    · have hcl2 : s.vm.findClass "java/lang/UnsupportedOperationException" = some ce.cls := by rw [h2] at hcl; exact hcl
      refine vx_catch (own := RL) (name := "java/lang/UnsupportedOperationException") (E := "java/lang/UnsupportedOperationException") hown [⟨0, 10, 13, 13⟩] ⟨0, 10, 17, 15⟩ [] hT (fun z hz => by
        simp only [List.mem_cons, List.mem_nil_iff, or_false] at hz
        rcases hz with rfl
        · exact Or.inr ⟨by decide, "java/lang/IllegalArgumentException", hts _ qkl_545, hO0.1.1⟩) (by decide) (by decide) (hts _ qkl_546) (va_Nw.use (q_kp_tab (List.mem_filter.mp qkc_15).2) (hC.2.2.2.2.2.2.2.2.2.2.2.2 _ qkc_15)) hce hcv hcl2 ?_
      refine lv_astore (lv' := [(4, .ref q9), (0, .ref (ad 228)), (1, .int a1), (2, .int a2), (3, .ref o)]) hx hb dL_cat_17 hl (by decide) rfl (fun ls hl => ?_)
      refine lv_iconst (v := 2) hx hb dL_cat_19 (by decide) ?_
      exact q_endL hC hR.1 (qS_do hR) hO ⟨f0, rfl, fun h => absurd (h3.symm.trans h) (by decide)⟩ rfl hr h3.symm (Nat.le_of_ble_eq_true rfl) (Nat.le_of_ble_eq_true rfl) dL_cat_20
    · exact absurd h2 (by rw [show ([1, 2] : List Nat).getD 2 0 = 0 from rfl]; exact h1)
  · have hO := qX_on qOut_k hO hz hk
    have hk0 : kF = 0 ∧ rF = r0 := by
      rcases hcase with ⟨h1, h2, h3⟩ | ⟨h1, h2, h3⟩ | ⟨h1, h2, h3⟩ | ⟨h1, h2, h3⟩
      · exact ⟨h2, h3⟩
      · exact absurd hc0 h1
      · exact absurd hc0 h1
      · exact absurd hc0 h1
    obtain ⟨hk0, rfl⟩ := hk0
    refine lv_i2l hx hb dL_cat_8 rfl ?_
    refine q_outL hC hR hO dL_cat_9 (fun H locs hP hS hO => ?_)
    refine lv_goto (tgt := 21) hx hb dL_cat_10 (by decide) ?_
    refine lv_iconst (v := 0) hx hb dL_cat_21 (by decide) ?_
    exact q_endL hC hP hS hO ⟨_, rfl, fun _ => rfl⟩ rfl hr hk0.symm (Nat.le_of_ble_eq_true rfl) (Nat.le_of_ble_eq_true rfl) dL_cat_22
def fL_take (w : qMem) (a1 : Int32) : Option (Int32 × Int32 × qMem) := qlh [3] (0 : Int32) (fX5_take w a1)
theorem qhd_L_take : yL_take.cls ≠ "java/lang/invoke/MethodHandle" ∧ yL_take.cls ≠ "java/lang/invoke/VarHandle" ∧ (parseMethodDescriptor yL_take.desc).map (fun d => d.parameters.length) = some 3 := ⟨by decide +kernel, by decide +kernel, by decide +kernel⟩
set_option maxHeartbeats 4000000 in
set_option maxRecDepth 100000 in
theorem mL_take {l : Launch} {D : va_G} {G : Nat → ClassId} {ad : Nat → Nat} (hJ : qInj ad) (hst : l.stackTraces = false) {w : qMem} {a1 : Int32} {kF : Int32} {rF : Int32} {wF : qMem} {o : Nat} {cA : ClassId} {f0 : Nat → Int64} (hf : fL_take w a1 = some (kF, rF, wF)) : qHL l D G ad yL_take cL_take 4 [(0, 9, 12, 27)] 9 1 6 [.ref (ad 228), .int a1, .ref o] w o cA .long (1, .inr (.inl f0)) kF (qPL kF rF.toInt64) wF := by
  obtain ⟨cE, r0, h0, hcase⟩ := qlh_s hf
  refine q_startL rfl (by decide +kernel) hJ (Nat.le_of_ble_eq_true rfl) ?_
  intro p e s m args below meth c0 ls hC hr hT hO0 hR hl
  have hx := hC.1
  have hb := hC.2.1
  have hts := hC.2.2.2.2.1
  have hown := hC.2.2.2.1
  have hl : lv_has ls 4 [(0, .ref (ad 228)), (1, .int a1), (2, .ref o)] := hl
  have hO : qOut o cA .long (1, .inr (.inl f0)) (qAdr ad s.heap.size) s s.heap := hO0
  refine lv_aload_n hx hb dL_take_0 rfl (lv_at hl 2 rfl) ?_
  refine lv_iconst (v := 0) hx hb dL_take_1 (by decide) ?_
  refine lv_aload_n hx hb dL_take_2 rfl (lv_at hl 0 rfl) ?_
  refine lv_iload_n hx hb dL_take_3 rfl (lv_at hl 1 rfl) ?_
  refine qx_ki (As := [.int a1]) (rest := [.int 0, .ref o]) hC hR (mX5_take hJ hst h0) (by decide) (qsh_228 G ad _) rfl qkl_684 qk_685 qk_686 qk_58 qk_687 qhd_X5_take ⟨Nat.le_of_ble_eq_true rfl, Nat.le_of_ble_eq_true rfl⟩ hl.1 rfl (Nat.le_of_ble_eq_true rfl) dL_take_4 ⟨Nat.le_of_ble_eq_true rfl, Nat.le_of_ble_eq_true rfl⟩ (fun hne H locs ce q9 hz hk hR hce hcv hcl => ?_) (fun hc0 H locs hz hk hR => ?_)
  · have hO := qX_on qOut_k hO hz hk
    rcases hcase with ⟨h1, h2, h3⟩ | ⟨h1, h2, h3⟩ | ⟨h1, h2, h3⟩ | ⟨h1, h2, h3⟩
    · exact absurd h1 hne
    · have hcl2 : s.vm.findClass "java/lang/IndexOutOfBoundsException" = some ce.cls := by rw [h2] at hcl; exact hcl
      refine vx_catch (own := RL) (name := "java/lang/IndexOutOfBoundsException") (E := "java/lang/IndexOutOfBoundsException") hown [] ⟨0, 9, 12, 27⟩ [] hT (fun z hz => by cases hz) (by decide) (by decide) (hts _ qkl_660) (va_Nw.use (q_kp_tab (List.mem_filter.mp qkc_27).2) (hC.2.2.2.2.2.2.2.2.2.2.2.2 _ qkc_27)) hce hcv hcl2 ?_
      refine lv_astore_n (lv' := [(3, .ref q9), (0, .ref (ad 228)), (1, .int a1), (2, .ref o)]) hx hb dL_take_12 rfl hl (by decide) rfl (fun ls hl => ?_)
      refine lv_iconst (v := 1) hx hb dL_take_13 (by decide) ?_
      exact q_endL hC hR.1 (qS_do hR) hO ⟨f0, rfl, fun h => absurd (h3.symm.trans h) (by decide)⟩ rfl hr h3.symm (Nat.le_of_ble_eq_true rfl) (Nat.le_of_ble_eq_true rfl) dL_take_14
    · exact absurd h2 (by rw [show ([3] : List Nat).getD 1 0 = 0 from rfl]; exact h1)
    · exact absurd h2 (by rw [show ([3] : List Nat).getD 2 0 = 0 from rfl]; exact h1)
  · have hO := qX_on qOut_k hO hz hk
    have hk0 : kF = 0 ∧ rF = r0 := by
      rcases hcase with ⟨h1, h2, h3⟩ | ⟨h1, h2, h3⟩ | ⟨h1, h2, h3⟩ | ⟨h1, h2, h3⟩
      · exact ⟨h2, h3⟩
      · exact absurd hc0 h1
      · exact absurd hc0 h1
      · exact absurd hc0 h1
    obtain ⟨hk0, rfl⟩ := hk0
    refine lv_i2l hx hb dL_take_7 rfl ?_
    refine q_outL hC hR hO dL_take_8 (fun H locs hP hS hO => ?_)
    refine lv_goto (tgt := 15) hx hb dL_take_9 (by decide) ?_
    refine lv_iconst (v := 0) hx hb dL_take_15 (by decide) ?_
    exact q_endL hC hP hS hO ⟨_, rfl, fun _ => rfl⟩ rfl hr hk0.symm (Nat.le_of_ble_eq_true rfl) (Nat.le_of_ble_eq_true rfl) dL_take_16
def fL_cue (w : qMem) (a1 : Int32) (a2 : Int32) : Option (Int32 × Int32 × qMem) := qlh [3, 1, 2] (0 : Int32) (fX5_cue w a1 a2)
theorem qhd_L_cue : yL_cue.cls ≠ "java/lang/invoke/MethodHandle" ∧ yL_cue.cls ≠ "java/lang/invoke/VarHandle" ∧ (parseMethodDescriptor yL_cue.desc).map (fun d => d.parameters.length) = some 4 := ⟨by decide +kernel, by decide +kernel, by decide +kernel⟩
set_option maxHeartbeats 4000000 in
set_option maxRecDepth 100000 in
theorem mL_cue {l : Launch} {D : va_G} {G : Nat → ClassId} {ad : Nat → Nat} (hJ : qInj ad) (hst : l.stackTraces = false) {w : qMem} {a1 : Int32} {a2 : Int32} {kF : Int32} {rF : Int32} {wF : qMem} {o : Nat} {cA : ClassId} {f0 : Nat → Int64} (hf : fL_cue w a1 a2 = some (kF, rF, wF)) : qHL l D G ad yL_cue cL_cue 5 [(0, 10, 13, 27), (0, 10, 17, 13), (0, 10, 21, 15)] 9 1 6 [.ref (ad 228), .int a1, .int a2, .ref o] w o cA .long (1, .inr (.inl f0)) kF (qPL kF rF.toInt64) wF := by
  obtain ⟨cE, r0, h0, hcase⟩ := qlh_s hf
  refine q_startL rfl (by decide +kernel) hJ (Nat.le_of_ble_eq_true rfl) ?_
  intro p e s m args below meth c0 ls hC hr hT hO0 hR hl
  have hx := hC.1
  have hb := hC.2.1
  have hts := hC.2.2.2.2.1
  have hown := hC.2.2.2.1
  have hl : lv_has ls 5 [(0, .ref (ad 228)), (1, .int a1), (2, .int a2), (3, .ref o)] := hl
  have hO : qOut o cA .long (1, .inr (.inl f0)) (qAdr ad s.heap.size) s s.heap := hO0
  refine lv_aload_n hx hb dL_cue_0 rfl (lv_at hl 3 rfl) ?_
  refine lv_iconst (v := 0) hx hb dL_cue_1 (by decide) ?_
  refine lv_aload_n hx hb dL_cue_2 rfl (lv_at hl 0 rfl) ?_
  refine lv_iload_n hx hb dL_cue_3 rfl (lv_at hl 1 rfl) ?_
  refine lv_iload_n hx hb dL_cue_4 rfl (lv_at hl 2 rfl) ?_
  refine qx_ki (As := [.int a1, .int a2]) (rest := [.int 0, .ref o]) hC hR (mX5_cue hJ hst h0) (by decide) (qsh_228 G ad _) rfl qkl_704 qk_705 qk_706 qk_58 qk_707 qhd_X5_cue ⟨Nat.le_of_ble_eq_true rfl, Nat.le_of_ble_eq_true rfl⟩ hl.1 rfl (Nat.le_of_ble_eq_true rfl) dL_cue_5 ⟨Nat.le_of_ble_eq_true rfl, Nat.le_of_ble_eq_true rfl⟩ (fun hne H locs ce q9 hz hk hR hce hcv hcl => ?_) (fun hc0 H locs hz hk hR => ?_)
  · have hO := qX_on qOut_k hO hz hk
    rcases hcase with ⟨h1, h2, h3⟩ | ⟨h1, h2, h3⟩ | ⟨h1, h2, h3⟩ | ⟨h1, h2, h3⟩
    · exact absurd h1 hne
    · have hcl2 : s.vm.findClass "java/lang/IndexOutOfBoundsException" = some ce.cls := by rw [h2] at hcl; exact hcl
      refine vx_catch (own := RL) (name := "java/lang/IndexOutOfBoundsException") (E := "java/lang/IndexOutOfBoundsException") hown [] ⟨0, 10, 13, 27⟩ [⟨0, 10, 17, 13⟩, ⟨0, 10, 21, 15⟩] hT (fun z hz => by cases hz) (by decide) (by decide) (hts _ qkl_660) (va_Nw.use (q_kp_tab (List.mem_filter.mp qkc_27).2) (hC.2.2.2.2.2.2.2.2.2.2.2.2 _ qkc_27)) hce hcv hcl2 ?_
      refine lv_astore (lv' := [(4, .ref q9), (0, .ref (ad 228)), (1, .int a1), (2, .int a2), (3, .ref o)]) hx hb dL_cue_13 hl (by decide) rfl (fun ls hl => ?_)
      refine lv_iconst (v := 1) hx hb dL_cue_15 (by decide) ?_
      exact q_endL hC hR.1 (qS_do hR) hO ⟨f0, rfl, fun h => absurd (h3.symm.trans h) (by decide)⟩ rfl hr h3.symm (Nat.le_of_ble_eq_true rfl) (Nat.le_of_ble_eq_true rfl) dL_cue_16
    · have hcl2 : s.vm.findClass "java/lang/IllegalArgumentException" = some ce.cls := by rw [h2] at hcl; exact hcl
      refine vx_catch (own := RL) (name := "java/lang/IllegalArgumentException") (E := "java/lang/IllegalArgumentException") hown [⟨0, 10, 13, 27⟩] ⟨0, 10, 17, 13⟩ [⟨0, 10, 21, 15⟩] hT (fun z hz => by
        simp only [List.mem_cons, List.mem_nil_iff, or_false] at hz
        rcases hz with rfl
        · exact Or.inr ⟨by decide, "java/lang/IndexOutOfBoundsException", hts _ qkl_660, hO0.1.2.1⟩) (by decide) (by decide) (hts _ qkl_545) (va_Nw.use (q_kp_tab (List.mem_filter.mp qkc_13).2) (hC.2.2.2.2.2.2.2.2.2.2.2.2 _ qkc_13)) hce hcv hcl2 ?_
      refine lv_astore (lv' := [(4, .ref q9), (0, .ref (ad 228)), (1, .int a1), (2, .int a2), (3, .ref o)]) hx hb dL_cue_17 hl (by decide) rfl (fun ls hl => ?_)
      refine lv_iconst (v := 2) hx hb dL_cue_19 (by decide) ?_
      exact q_endL hC hR.1 (qS_do hR) hO ⟨f0, rfl, fun h => absurd (h3.symm.trans h) (by decide)⟩ rfl hr h3.symm (Nat.le_of_ble_eq_true rfl) (Nat.le_of_ble_eq_true rfl) dL_cue_20
    · have hcl2 : s.vm.findClass "java/lang/UnsupportedOperationException" = some ce.cls := by rw [h2] at hcl; exact hcl
      refine vx_catch (own := RL) (name := "java/lang/UnsupportedOperationException") (E := "java/lang/UnsupportedOperationException") hown [⟨0, 10, 13, 27⟩, ⟨0, 10, 17, 13⟩] ⟨0, 10, 21, 15⟩ [] hT (fun z hz => by
        simp only [List.mem_cons, List.mem_nil_iff, or_false] at hz
        rcases hz with rfl | rfl
        · exact Or.inr ⟨by decide, "java/lang/IndexOutOfBoundsException", hts _ qkl_660, hO0.1.2.2⟩
        · exact Or.inr ⟨by decide, "java/lang/IllegalArgumentException", hts _ qkl_545, hO0.1.1⟩) (by decide) (by decide) (hts _ qkl_546) (va_Nw.use (q_kp_tab (List.mem_filter.mp qkc_15).2) (hC.2.2.2.2.2.2.2.2.2.2.2.2 _ qkc_15)) hce hcv hcl2 ?_
      refine lv_astore (lv' := [(4, .ref q9), (0, .ref (ad 228)), (1, .int a1), (2, .int a2), (3, .ref o)]) hx hb dL_cue_21 hl (by decide) rfl (fun ls hl => ?_)
      refine lv_iconst (v := 3) hx hb dL_cue_23 (by decide) ?_
      exact q_endL hC hR.1 (qS_do hR) hO ⟨f0, rfl, fun h => absurd (h3.symm.trans h) (by decide)⟩ rfl hr h3.symm (Nat.le_of_ble_eq_true rfl) (Nat.le_of_ble_eq_true rfl) dL_cue_24
  · have hO := qX_on qOut_k hO hz hk
    have hk0 : kF = 0 ∧ rF = r0 := by
      rcases hcase with ⟨h1, h2, h3⟩ | ⟨h1, h2, h3⟩ | ⟨h1, h2, h3⟩ | ⟨h1, h2, h3⟩
      · exact ⟨h2, h3⟩
      · exact absurd hc0 h1
      · exact absurd hc0 h1
      · exact absurd hc0 h1
    obtain ⟨hk0, rfl⟩ := hk0
    refine lv_i2l hx hb dL_cue_8 rfl ?_
    refine q_outL hC hR hO dL_cue_9 (fun H locs hP hS hO => ?_)
    refine lv_goto (tgt := 25) hx hb dL_cue_10 (by decide) ?_
    refine lv_iconst (v := 0) hx hb dL_cue_25 (by decide) ?_
    exact q_endL hC hP hS hO ⟨_, rfl, fun _ => rfl⟩ rfl hr hk0.symm (Nat.le_of_ble_eq_true rfl) (Nat.le_of_ble_eq_true rfl) dL_cue_26
def fL_set (w : qMem) (a1 : Int32) : Option (Int32 × Int32 × qMem) := qlh [1, 2] (0 : Int32) (fX5_set w a1)
theorem qhd_L_set : yL_set.cls ≠ "java/lang/invoke/MethodHandle" ∧ yL_set.cls ≠ "java/lang/invoke/VarHandle" ∧ (parseMethodDescriptor yL_set.desc).map (fun d => d.parameters.length) = some 3 := ⟨by decide +kernel, by decide +kernel, by decide +kernel⟩
set_option maxHeartbeats 4000000 in
set_option maxRecDepth 100000 in
theorem mL_set {l : Launch} {D : va_G} {G : Nat → ClassId} {ad : Nat → Nat} (hJ : qInj ad) (hst : l.stackTraces = false) {w : qMem} {a1 : Int32} {kF : Int32} {rF : Int32} {wF : qMem} {o : Nat} {cA : ClassId} {f0 : Nat → Int64} (hf : fL_set w a1 = some (kF, rF, wF)) : qHL l D G ad yL_set cL_set 4 [(0, 9, 12, 13), (0, 9, 15, 15)] 10 1 6 [.ref (ad 228), .int a1, .ref o] w o cA .long (1, .inr (.inl f0)) kF (qPL kF rF.toInt64) wF := by
  obtain ⟨cE, r0, h0, hcase⟩ := qlh_s hf
  refine q_startL rfl (by decide +kernel) hJ (Nat.le_of_ble_eq_true rfl) ?_
  intro p e s m args below meth c0 ls hC hr hT hO0 hR hl
  have hx := hC.1
  have hb := hC.2.1
  have hts := hC.2.2.2.2.1
  have hown := hC.2.2.2.1
  have hl : lv_has ls 4 [(0, .ref (ad 228)), (1, .int a1), (2, .ref o)] := hl
  have hO : qOut o cA .long (1, .inr (.inl f0)) (qAdr ad s.heap.size) s s.heap := hO0
  refine lv_aload_n hx hb dL_set_0 rfl (lv_at hl 2 rfl) ?_
  refine lv_iconst (v := 0) hx hb dL_set_1 (by decide) ?_
  refine lv_aload_n hx hb dL_set_2 rfl (lv_at hl 0 rfl) ?_
  refine lv_iload_n hx hb dL_set_3 rfl (lv_at hl 1 rfl) ?_
  refine qx_ki (As := [.int a1]) (rest := [.int 0, .ref o]) hC hR (mX5_set hJ hst h0) (by decide) (qsh_228 G ad _) rfl qkl_713 qk_714 qk_715 qk_58 qk_716 qhd_X5_set ⟨Nat.le_of_ble_eq_true rfl, Nat.le_of_ble_eq_true rfl⟩ hl.1 rfl (Nat.le_of_ble_eq_true rfl) dL_set_4 ⟨Nat.le_of_ble_eq_true rfl, Nat.le_of_ble_eq_true rfl⟩ (fun hne H locs ce q9 hz hk hR hce hcv hcl => ?_) (fun hc0 H locs hz hk hR => ?_)
  · have hO := qX_on qOut_k hO hz hk
    rcases hcase with ⟨h1, h2, h3⟩ | ⟨h1, h2, h3⟩ | ⟨h1, h2, h3⟩ | ⟨h1, h2, h3⟩
    · exact absurd h1 hne
    · have hcl2 : s.vm.findClass "java/lang/IllegalArgumentException" = some ce.cls := by rw [h2] at hcl; exact hcl
      refine vx_catch (own := RL) (name := "java/lang/IllegalArgumentException") (E := "java/lang/IllegalArgumentException") hown [] ⟨0, 9, 12, 13⟩ [⟨0, 9, 15, 15⟩] hT (fun z hz => by cases hz) (by decide) (by decide) (hts _ qkl_545) (va_Nw.use (q_kp_tab (List.mem_filter.mp qkc_13).2) (hC.2.2.2.2.2.2.2.2.2.2.2.2 _ qkc_13)) hce hcv hcl2 ?_
      refine lv_astore_n (lv' := [(3, .ref q9), (0, .ref (ad 228)), (1, .int a1), (2, .ref o)]) hx hb dL_set_12 rfl hl (by decide) rfl (fun ls hl => ?_)
      refine lv_iconst (v := 1) hx hb dL_set_13 (by decide) ?_
      exact q_endL hC hR.1 (qS_do hR) hO ⟨f0, rfl, fun h => absurd (h3.symm.trans h) (by decide)⟩ rfl hr h3.symm (Nat.le_of_ble_eq_true rfl) (Nat.le_of_ble_eq_true rfl) dL_set_14
    · have hcl2 : s.vm.findClass "java/lang/UnsupportedOperationException" = some ce.cls := by rw [h2] at hcl; exact hcl
      refine vx_catch (own := RL) (name := "java/lang/UnsupportedOperationException") (E := "java/lang/UnsupportedOperationException") hown [⟨0, 9, 12, 13⟩] ⟨0, 9, 15, 15⟩ [] hT (fun z hz => by
        simp only [List.mem_cons, List.mem_nil_iff, or_false] at hz
        rcases hz with rfl
        · exact Or.inr ⟨by decide, "java/lang/IllegalArgumentException", hts _ qkl_545, hO0.1.1⟩) (by decide) (by decide) (hts _ qkl_546) (va_Nw.use (q_kp_tab (List.mem_filter.mp qkc_15).2) (hC.2.2.2.2.2.2.2.2.2.2.2.2 _ qkc_15)) hce hcv hcl2 ?_
      refine lv_astore_n (lv' := [(3, .ref q9), (0, .ref (ad 228)), (1, .int a1), (2, .ref o)]) hx hb dL_set_15 rfl hl (by decide) rfl (fun ls hl => ?_)
      refine lv_iconst (v := 2) hx hb dL_set_16 (by decide) ?_
      exact q_endL hC hR.1 (qS_do hR) hO ⟨f0, rfl, fun h => absurd (h3.symm.trans h) (by decide)⟩ rfl hr h3.symm (Nat.le_of_ble_eq_true rfl) (Nat.le_of_ble_eq_true rfl) dL_set_17
    · exact absurd h2 (by rw [show ([1, 2] : List Nat).getD 2 0 = 0 from rfl]; exact h1)
  · have hO := qX_on qOut_k hO hz hk
    have hk0 : kF = 0 ∧ rF = r0 := by
      rcases hcase with ⟨h1, h2, h3⟩ | ⟨h1, h2, h3⟩ | ⟨h1, h2, h3⟩ | ⟨h1, h2, h3⟩
      · exact ⟨h2, h3⟩
      · exact absurd hc0 h1
      · exact absurd hc0 h1
      · exact absurd hc0 h1
    obtain ⟨hk0, rfl⟩ := hk0
    refine lv_i2l hx hb dL_set_7 rfl ?_
    refine q_outL hC hR hO dL_set_8 (fun H locs hP hS hO => ?_)
    refine lv_goto (tgt := 18) hx hb dL_set_9 (by decide) ?_
    refine lv_iconst (v := 0) hx hb dL_set_18 (by decide) ?_
    exact q_endL hC hP hS hO ⟨_, rfl, fun _ => rfl⟩ rfl hr hk0.symm (Nat.le_of_ble_eq_true rfl) (Nat.le_of_ble_eq_true rfl) dL_set_19
def fL_add (w : qMem) (a1 : Int32) : Option (Int32 × Int32 × qMem) := qlh [1, 2] (0 : Int32) (fX5_add w a1)
theorem qhd_L_add : yL_add.cls ≠ "java/lang/invoke/MethodHandle" ∧ yL_add.cls ≠ "java/lang/invoke/VarHandle" ∧ (parseMethodDescriptor yL_add.desc).map (fun d => d.parameters.length) = some 3 := ⟨by decide +kernel, by decide +kernel, by decide +kernel⟩
set_option maxHeartbeats 4000000 in
set_option maxRecDepth 100000 in
theorem mL_add {l : Launch} {D : va_G} {G : Nat → ClassId} {ad : Nat → Nat} (hJ : qInj ad) (hst : l.stackTraces = false) {w : qMem} {a1 : Int32} {kF : Int32} {rF : Int32} {wF : qMem} {o : Nat} {cA : ClassId} {f0 : Nat → Int64} (hf : fL_add w a1 = some (kF, rF, wF)) : qHL l D G ad yL_add cL_add 4 [(0, 9, 12, 13), (0, 9, 15, 15)] 10 1 6 [.ref (ad 228), .int a1, .ref o] w o cA .long (1, .inr (.inl f0)) kF (qPL kF rF.toInt64) wF := by
  obtain ⟨cE, r0, h0, hcase⟩ := qlh_s hf
  refine q_startL rfl (by decide +kernel) hJ (Nat.le_of_ble_eq_true rfl) ?_
  intro p e s m args below meth c0 ls hC hr hT hO0 hR hl
  have hx := hC.1
  have hb := hC.2.1
  have hts := hC.2.2.2.2.1
  have hown := hC.2.2.2.1
  have hl : lv_has ls 4 [(0, .ref (ad 228)), (1, .int a1), (2, .ref o)] := hl
  have hO : qOut o cA .long (1, .inr (.inl f0)) (qAdr ad s.heap.size) s s.heap := hO0
  refine lv_aload_n hx hb dL_add_0 rfl (lv_at hl 2 rfl) ?_
  refine lv_iconst (v := 0) hx hb dL_add_1 (by decide) ?_
  refine lv_aload_n hx hb dL_add_2 rfl (lv_at hl 0 rfl) ?_
  refine lv_iload_n hx hb dL_add_3 rfl (lv_at hl 1 rfl) ?_
  refine qx_ki (As := [.int a1]) (rest := [.int 0, .ref o]) hC hR (mX5_add hJ hst h0) (by decide) (qsh_228 G ad _) rfl qkl_726 qk_727 qk_728 qk_58 qk_729 qhd_X5_add ⟨Nat.le_of_ble_eq_true rfl, Nat.le_of_ble_eq_true rfl⟩ hl.1 rfl (Nat.le_of_ble_eq_true rfl) dL_add_4 ⟨Nat.le_of_ble_eq_true rfl, Nat.le_of_ble_eq_true rfl⟩ (fun hne H locs ce q9 hz hk hR hce hcv hcl => ?_) (fun hc0 H locs hz hk hR => ?_)
  · have hO := qX_on qOut_k hO hz hk
    rcases hcase with ⟨h1, h2, h3⟩ | ⟨h1, h2, h3⟩ | ⟨h1, h2, h3⟩ | ⟨h1, h2, h3⟩
    · exact absurd h1 hne
    · have hcl2 : s.vm.findClass "java/lang/IllegalArgumentException" = some ce.cls := by rw [h2] at hcl; exact hcl
      refine vx_catch (own := RL) (name := "java/lang/IllegalArgumentException") (E := "java/lang/IllegalArgumentException") hown [] ⟨0, 9, 12, 13⟩ [⟨0, 9, 15, 15⟩] hT (fun z hz => by cases hz) (by decide) (by decide) (hts _ qkl_545) (va_Nw.use (q_kp_tab (List.mem_filter.mp qkc_13).2) (hC.2.2.2.2.2.2.2.2.2.2.2.2 _ qkc_13)) hce hcv hcl2 ?_
      refine lv_astore_n (lv' := [(3, .ref q9), (0, .ref (ad 228)), (1, .int a1), (2, .ref o)]) hx hb dL_add_12 rfl hl (by decide) rfl (fun ls hl => ?_)
      refine lv_iconst (v := 1) hx hb dL_add_13 (by decide) ?_
      exact q_endL hC hR.1 (qS_do hR) hO ⟨f0, rfl, fun h => absurd (h3.symm.trans h) (by decide)⟩ rfl hr h3.symm (Nat.le_of_ble_eq_true rfl) (Nat.le_of_ble_eq_true rfl) dL_add_14
    · have hcl2 : s.vm.findClass "java/lang/UnsupportedOperationException" = some ce.cls := by rw [h2] at hcl; exact hcl
      refine vx_catch (own := RL) (name := "java/lang/UnsupportedOperationException") (E := "java/lang/UnsupportedOperationException") hown [⟨0, 9, 12, 13⟩] ⟨0, 9, 15, 15⟩ [] hT (fun z hz => by
        simp only [List.mem_cons, List.mem_nil_iff, or_false] at hz
        rcases hz with rfl
        · exact Or.inr ⟨by decide, "java/lang/IllegalArgumentException", hts _ qkl_545, hO0.1.1⟩) (by decide) (by decide) (hts _ qkl_546) (va_Nw.use (q_kp_tab (List.mem_filter.mp qkc_15).2) (hC.2.2.2.2.2.2.2.2.2.2.2.2 _ qkc_15)) hce hcv hcl2 ?_
      refine lv_astore_n (lv' := [(3, .ref q9), (0, .ref (ad 228)), (1, .int a1), (2, .ref o)]) hx hb dL_add_15 rfl hl (by decide) rfl (fun ls hl => ?_)
      refine lv_iconst (v := 2) hx hb dL_add_16 (by decide) ?_
      exact q_endL hC hR.1 (qS_do hR) hO ⟨f0, rfl, fun h => absurd (h3.symm.trans h) (by decide)⟩ rfl hr h3.symm (Nat.le_of_ble_eq_true rfl) (Nat.le_of_ble_eq_true rfl) dL_add_17
    · exact absurd h2 (by rw [show ([1, 2] : List Nat).getD 2 0 = 0 from rfl]; exact h1)
  · have hO := qX_on qOut_k hO hz hk
    have hk0 : kF = 0 ∧ rF = r0 := by
      rcases hcase with ⟨h1, h2, h3⟩ | ⟨h1, h2, h3⟩ | ⟨h1, h2, h3⟩ | ⟨h1, h2, h3⟩
      · exact ⟨h2, h3⟩
      · exact absurd hc0 h1
      · exact absurd hc0 h1
      · exact absurd hc0 h1
    obtain ⟨hk0, rfl⟩ := hk0
    refine lv_i2l hx hb dL_add_7 rfl ?_
    refine q_outL hC hR hO dL_add_8 (fun H locs hP hS hO => ?_)
    refine lv_goto (tgt := 18) hx hb dL_add_9 (by decide) ?_
    refine lv_iconst (v := 0) hx hb dL_add_18 (by decide) ?_
    exact q_endL hC hP hS hO ⟨_, rfl, fun _ => rfl⟩ rfl hr hk0.symm (Nat.le_of_ble_eq_true rfl) (Nat.le_of_ble_eq_true rfl) dL_add_19
def fL_perform (w : qMem)  : Option (Int32 × Int32 × qMem) := qlh [2] (0 : Int32) (fX5_perform w)
theorem qhd_L_perform : yL_perform.cls ≠ "java/lang/invoke/MethodHandle" ∧ yL_perform.cls ≠ "java/lang/invoke/VarHandle" ∧ (parseMethodDescriptor yL_perform.desc).map (fun d => d.parameters.length) = some 2 := ⟨by decide +kernel, by decide +kernel, by decide +kernel⟩
set_option maxHeartbeats 4000000 in
set_option maxRecDepth 100000 in
theorem mL_perform {l : Launch} {D : va_G} {G : Nat → ClassId} {ad : Nat → Nat} (hJ : qInj ad) (hst : l.stackTraces = false) {w : qMem}  {kF : Int32} {rF : Int32} {wF : qMem} {o : Nat} {cA : ClassId} {f0 : Nat → Int64} (hf : fL_perform w = some (kF, rF, wF)) : qHL l D G ad yL_perform cL_perform 3 [(0, 8, 11, 15)] 9 1 6 [.ref (ad 228), .ref o] w o cA .long (1, .inr (.inl f0)) kF (qPL kF rF.toInt64) wF := by
  obtain ⟨cE, r0, h0, hcase⟩ := qlh_s hf
  refine q_startL rfl (by decide +kernel) hJ (Nat.le_of_ble_eq_true rfl) ?_
  intro p e s m args below meth c0 ls hC hr hT hO0 hR hl
  have hx := hC.1
  have hb := hC.2.1
  have hts := hC.2.2.2.2.1
  have hown := hC.2.2.2.1
  have hl : lv_has ls 3 [(0, .ref (ad 228)), (1, .ref o)] := hl
  have hO : qOut o cA .long (1, .inr (.inl f0)) (qAdr ad s.heap.size) s s.heap := hO0
  refine lv_aload_n hx hb dL_perform_0 rfl (lv_at hl 1 rfl) ?_
  refine lv_iconst (v := 0) hx hb dL_perform_1 (by decide) ?_
  refine lv_aload_n hx hb dL_perform_2 rfl (lv_at hl 0 rfl) ?_
  refine qx_ki (As := []) (rest := [.int 0, .ref o]) hC hR (mX5_perform hJ hst h0) (by decide) (qsh_228 G ad _) rfl qkl_733 qk_734 qk_735 qk_58 qk_736 qhd_X5_perform ⟨Nat.le_of_ble_eq_true rfl, Nat.le_of_ble_eq_true rfl⟩ hl.1 rfl (Nat.le_of_ble_eq_true rfl) dL_perform_3 ⟨Nat.le_of_ble_eq_true rfl, Nat.le_of_ble_eq_true rfl⟩ (fun hne H locs ce q9 hz hk hR hce hcv hcl => ?_) (fun hc0 H locs hz hk hR => ?_)
  · have hO := qX_on qOut_k hO hz hk
    rcases hcase with ⟨h1, h2, h3⟩ | ⟨h1, h2, h3⟩ | ⟨h1, h2, h3⟩ | ⟨h1, h2, h3⟩
    · exact absurd h1 hne
    · have hcl2 : s.vm.findClass "java/lang/UnsupportedOperationException" = some ce.cls := by rw [h2] at hcl; exact hcl
      refine vx_catch (own := RL) (name := "java/lang/UnsupportedOperationException") (E := "java/lang/UnsupportedOperationException") hown [] ⟨0, 8, 11, 15⟩ [] hT (fun z hz => by cases hz) (by decide) (by decide) (hts _ qkl_546) (va_Nw.use (q_kp_tab (List.mem_filter.mp qkc_15).2) (hC.2.2.2.2.2.2.2.2.2.2.2.2 _ qkc_15)) hce hcv hcl2 ?_
      refine lv_astore_n (lv' := [(2, .ref q9), (0, .ref (ad 228)), (1, .ref o)]) hx hb dL_perform_11 rfl hl (by decide) rfl (fun ls hl => ?_)
      refine lv_iconst (v := 1) hx hb dL_perform_12 (by decide) ?_
      exact q_endL hC hR.1 (qS_do hR) hO ⟨f0, rfl, fun h => absurd (h3.symm.trans h) (by decide)⟩ rfl hr h3.symm (Nat.le_of_ble_eq_true rfl) (Nat.le_of_ble_eq_true rfl) dL_perform_13
    · exact absurd h2 (by rw [show ([2] : List Nat).getD 1 0 = 0 from rfl]; exact h1)
    · exact absurd h2 (by rw [show ([2] : List Nat).getD 2 0 = 0 from rfl]; exact h1)
  · have hO := qX_on qOut_k hO hz hk
    have hk0 : kF = 0 ∧ rF = r0 := by
      rcases hcase with ⟨h1, h2, h3⟩ | ⟨h1, h2, h3⟩ | ⟨h1, h2, h3⟩ | ⟨h1, h2, h3⟩
      · exact ⟨h2, h3⟩
      · exact absurd hc0 h1
      · exact absurd hc0 h1
      · exact absurd hc0 h1
    obtain ⟨hk0, rfl⟩ := hk0
    refine lv_i2l hx hb dL_perform_6 rfl ?_
    refine q_outL hC hR hO dL_perform_7 (fun H locs hP hS hO => ?_)
    refine lv_goto (tgt := 14) hx hb dL_perform_8 (by decide) ?_
    refine lv_iconst (v := 0) hx hb dL_perform_14 (by decide) ?_
    exact q_endL hC hP hS hO ⟨_, rfl, fun _ => rfl⟩ rfl hr hk0.symm (Nat.le_of_ble_eq_true rfl) (Nat.le_of_ble_eq_true rfl) dL_perform_15
def fL_propOf (w : qMem) (a1 : Int32) (a2 : Int32) : Option (Int32 × Int32 × qMem) := qlh [3, 1] (0 : Int32) (fX5_propOf w a1 a2)
theorem qhd_L_propOf : yL_propOf.cls ≠ "java/lang/invoke/MethodHandle" ∧ yL_propOf.cls ≠ "java/lang/invoke/VarHandle" ∧ (parseMethodDescriptor yL_propOf.desc).map (fun d => d.parameters.length) = some 4 := ⟨by decide +kernel, by decide +kernel, by decide +kernel⟩
set_option maxHeartbeats 4000000 in
set_option maxRecDepth 100000 in
theorem mL_propOf {l : Launch} {D : va_G} {G : Nat → ClassId} {ad : Nat → Nat} (hJ : qInj ad) (hst : l.stackTraces = false) {w : qMem} {a1 : Int32} {a2 : Int32} {kF : Int32} {rF : Int32} {wF : qMem} {o : Nat} {cA : ClassId} {f0 : Nat → Int64} (hf : fL_propOf w a1 a2 = some (kF, rF, wF)) : qHL l D G ad yL_propOf cL_propOf 5 [(0, 10, 13, 27), (0, 10, 17, 13)] 8 2 12 [.ref (ad 228), .int a1, .int a2, .ref o] w o cA .long (1, .inr (.inl f0)) kF (qPL kF rF.toInt64) wF := by
  obtain ⟨cE, r0, h0, hcase⟩ := qlh_s hf
  refine q_startL rfl (by decide +kernel) hJ (Nat.le_of_ble_eq_true rfl) ?_
  intro p e s m args below meth c0 ls hC hr hT hO0 hR hl
  have hx := hC.1
  have hb := hC.2.1
  have hts := hC.2.2.2.2.1
  have hown := hC.2.2.2.1
  have hl : lv_has ls 5 [(0, .ref (ad 228)), (1, .int a1), (2, .int a2), (3, .ref o)] := hl
  have hO : qOut o cA .long (1, .inr (.inl f0)) (qAdr ad s.heap.size) s s.heap := hO0
  refine lv_aload_n hx hb dL_propOf_0 rfl (lv_at hl 3 rfl) ?_
  refine lv_iconst (v := 0) hx hb dL_propOf_1 (by decide) ?_
  refine lv_aload_n hx hb dL_propOf_2 rfl (lv_at hl 0 rfl) ?_
  refine lv_iload_n hx hb dL_propOf_3 rfl (lv_at hl 1 rfl) ?_
  refine lv_iload_n hx hb dL_propOf_4 rfl (lv_at hl 2 rfl) ?_
  refine qx_ki (As := [.int a1, .int a2]) (rest := [.int 0, .ref o]) hC hR (mX5_propOf hJ hst h0) (by decide) (qsh_228 G ad _) rfl qkl_741 qk_742 qk_743 qk_58 qk_744 qhd_X5_propOf ⟨Nat.le_of_ble_eq_true rfl, Nat.le_of_ble_eq_true rfl⟩ hl.1 rfl (Nat.le_of_ble_eq_true rfl) dL_propOf_5 ⟨Nat.le_of_ble_eq_true rfl, Nat.le_of_ble_eq_true rfl⟩ (fun hne H locs ce q9 hz hk hR hce hcv hcl => ?_) (fun hc0 H locs hz hk hR => ?_)
  · have hO := qX_on qOut_k hO hz hk
    rcases hcase with ⟨h1, h2, h3⟩ | ⟨h1, h2, h3⟩ | ⟨h1, h2, h3⟩ | ⟨h1, h2, h3⟩
    · exact absurd h1 hne
    · have hcl2 : s.vm.findClass "java/lang/IndexOutOfBoundsException" = some ce.cls := by rw [h2] at hcl; exact hcl
      refine vx_catch (own := RL) (name := "java/lang/IndexOutOfBoundsException") (E := "java/lang/IndexOutOfBoundsException") hown [] ⟨0, 10, 13, 27⟩ [⟨0, 10, 17, 13⟩] hT (fun z hz => by cases hz) (by decide) (by decide) (hts _ qkl_660) (va_Nw.use (q_kp_tab (List.mem_filter.mp qkc_27).2) (hC.2.2.2.2.2.2.2.2.2.2.2.2 _ qkc_27)) hce hcv hcl2 ?_
      refine lv_astore (lv' := [(4, .ref q9), (0, .ref (ad 228)), (1, .int a1), (2, .int a2), (3, .ref o)]) hx hb dL_propOf_13 hl (by decide) rfl (fun ls hl => ?_)
      refine lv_iconst (v := 1) hx hb dL_propOf_15 (by decide) ?_
      exact q_endL hC hR.1 (qS_do hR) hO ⟨f0, rfl, fun h => absurd (h3.symm.trans h) (by decide)⟩ rfl hr h3.symm (Nat.le_of_ble_eq_true rfl) (Nat.le_of_ble_eq_true rfl) dL_propOf_16
    · have hcl2 : s.vm.findClass "java/lang/IllegalArgumentException" = some ce.cls := by rw [h2] at hcl; exact hcl
      refine vx_catch (own := RL) (name := "java/lang/IllegalArgumentException") (E := "java/lang/IllegalArgumentException") hown [⟨0, 10, 13, 27⟩] ⟨0, 10, 17, 13⟩ [] hT (fun z hz => by
        simp only [List.mem_cons, List.mem_nil_iff, or_false] at hz
        rcases hz with rfl
        · exact Or.inr ⟨by decide, "java/lang/IndexOutOfBoundsException", hts _ qkl_660, hO0.1.2.1⟩) (by decide) (by decide) (hts _ qkl_545) (va_Nw.use (q_kp_tab (List.mem_filter.mp qkc_13).2) (hC.2.2.2.2.2.2.2.2.2.2.2.2 _ qkc_13)) hce hcv hcl2 ?_
      refine lv_astore (lv' := [(4, .ref q9), (0, .ref (ad 228)), (1, .int a1), (2, .int a2), (3, .ref o)]) hx hb dL_propOf_17 hl (by decide) rfl (fun ls hl => ?_)
      refine lv_iconst (v := 2) hx hb dL_propOf_19 (by decide) ?_
      exact q_endL hC hR.1 (qS_do hR) hO ⟨f0, rfl, fun h => absurd (h3.symm.trans h) (by decide)⟩ rfl hr h3.symm (Nat.le_of_ble_eq_true rfl) (Nat.le_of_ble_eq_true rfl) dL_propOf_20
    · exact absurd h2 (by rw [show ([3, 1] : List Nat).getD 2 0 = 0 from rfl]; exact h1)
  · have hO := qX_on qOut_k hO hz hk
    have hk0 : kF = 0 ∧ rF = r0 := by
      rcases hcase with ⟨h1, h2, h3⟩ | ⟨h1, h2, h3⟩ | ⟨h1, h2, h3⟩ | ⟨h1, h2, h3⟩
      · exact ⟨h2, h3⟩
      · exact absurd hc0 h1
      · exact absurd hc0 h1
      · exact absurd hc0 h1
    obtain ⟨hk0, rfl⟩ := hk0
    refine lv_i2l hx hb dL_propOf_8 rfl ?_
    refine q_outL hC hR hO dL_propOf_9 (fun H locs hP hS hO => ?_)
    refine lv_goto (tgt := 21) hx hb dL_propOf_10 (by decide) ?_
    refine lv_iconst (v := 0) hx hb dL_propOf_21 (by decide) ?_
    exact q_endL hC hP hS hO ⟨_, rfl, fun _ => rfl⟩ rfl hr hk0.symm (Nat.le_of_ble_eq_true rfl) (Nat.le_of_ble_eq_true rfl) dL_propOf_22
def fL_programme (w : qMem) (a1 : Int32) : Option (Int32 × Int32 × qMem) := qlh [4] (0 : Int32) (fX5_programme w a1)
theorem qhd_L_programme : yL_programme.cls ≠ "java/lang/invoke/MethodHandle" ∧ yL_programme.cls ≠ "java/lang/invoke/VarHandle" ∧ (parseMethodDescriptor yL_programme.desc).map (fun d => d.parameters.length) = some 3 := ⟨by decide +kernel, by decide +kernel, by decide +kernel⟩
set_option maxHeartbeats 4000000 in
set_option maxRecDepth 100000 in
theorem mL_programme {l : Launch} {D : va_G} {G : Nat → ClassId} {ad : Nat → Nat} (hJ : qInj ad) (hst : l.stackTraces = false) {w : qMem} {a1 : Int32} {kF : Int32} {rF : Int32} {wF : qMem} {o : Nat} {cA : ClassId} {f0 : Nat → Int64} (hf : fL_programme w a1 = some (kF, rF, wF)) : qHL l D G ad yL_programme cL_programme 4 [(0, 9, 12, 48)] 7 1 6 [.ref (ad 228), .int a1, .ref o] w o cA .long (1, .inr (.inl f0)) kF (qPL kF rF.toInt64) wF := by
  obtain ⟨cE, r0, h0, hcase⟩ := qlh_s hf
  refine q_startL rfl (by decide +kernel) hJ (Nat.le_of_ble_eq_true rfl) ?_
  intro p e s m args below meth c0 ls hC hr hT hO0 hR hl
  have hx := hC.1
  have hb := hC.2.1
  have hts := hC.2.2.2.2.1
  have hown := hC.2.2.2.1
  have hl : lv_has ls 4 [(0, .ref (ad 228)), (1, .int a1), (2, .ref o)] := hl
  have hO : qOut o cA .long (1, .inr (.inl f0)) (qAdr ad s.heap.size) s s.heap := hO0
  refine lv_aload_n hx hb dL_programme_0 rfl (lv_at hl 2 rfl) ?_
  refine lv_iconst (v := 0) hx hb dL_programme_1 (by decide) ?_
  refine lv_aload_n hx hb dL_programme_2 rfl (lv_at hl 0 rfl) ?_
  refine lv_iload_n hx hb dL_programme_3 rfl (lv_at hl 1 rfl) ?_
  refine qx_ki (As := [.int a1]) (rest := [.int 0, .ref o]) hC hR (mX5_programme hJ hst h0) (by decide) (qsh_228 G ad _) rfl qkl_754 qk_755 qk_756 qk_58 qk_757 qhd_X5_programme ⟨Nat.le_of_ble_eq_true rfl, Nat.le_of_ble_eq_true rfl⟩ hl.1 rfl (Nat.le_of_ble_eq_true rfl) dL_programme_4 ⟨Nat.le_of_ble_eq_true rfl, Nat.le_of_ble_eq_true rfl⟩ (fun hne H locs ce q9 hz hk hR hce hcv hcl => ?_) (fun hc0 H locs hz hk hR => ?_)
  · have hO := qX_on qOut_k hO hz hk
    rcases hcase with ⟨h1, h2, h3⟩ | ⟨h1, h2, h3⟩ | ⟨h1, h2, h3⟩ | ⟨h1, h2, h3⟩
    · exact absurd h1 hne
    · have hcl2 : s.vm.findClass "java/util/NoSuchElementException" = some ce.cls := by rw [h2] at hcl; exact hcl
      refine vx_catch (own := RL) (name := "java/util/NoSuchElementException") (E := "java/util/NoSuchElementException") hown [] ⟨0, 9, 12, 48⟩ [] hT (fun z hz => by cases hz) (by decide) (by decide) (hts _ qkl_753) (va_Nw.use (q_kp_tab (List.mem_filter.mp qkc_48).2) (hC.2.2.2.2.2.2.2.2.2.2.2.2 _ qkc_48)) hce hcv hcl2 ?_
      refine lv_astore_n (lv' := [(3, .ref q9), (0, .ref (ad 228)), (1, .int a1), (2, .ref o)]) hx hb dL_programme_12 rfl hl (by decide) rfl (fun ls hl => ?_)
      refine lv_iconst (v := 1) hx hb dL_programme_13 (by decide) ?_
      exact q_endL hC hR.1 (qS_do hR) hO ⟨f0, rfl, fun h => absurd (h3.symm.trans h) (by decide)⟩ rfl hr h3.symm (Nat.le_of_ble_eq_true rfl) (Nat.le_of_ble_eq_true rfl) dL_programme_14
    · exact absurd h2 (by rw [show ([4] : List Nat).getD 1 0 = 0 from rfl]; exact h1)
    · exact absurd h2 (by rw [show ([4] : List Nat).getD 2 0 = 0 from rfl]; exact h1)
  · have hO := qX_on qOut_k hO hz hk
    have hk0 : kF = 0 ∧ rF = r0 := by
      rcases hcase with ⟨h1, h2, h3⟩ | ⟨h1, h2, h3⟩ | ⟨h1, h2, h3⟩ | ⟨h1, h2, h3⟩
      · exact ⟨h2, h3⟩
      · exact absurd hc0 h1
      · exact absurd hc0 h1
      · exact absurd hc0 h1
    obtain ⟨hk0, rfl⟩ := hk0
    refine lv_i2l hx hb dL_programme_7 rfl ?_
    refine q_outL hC hR hO dL_programme_8 (fun H locs hP hS hO => ?_)
    refine lv_goto (tgt := 15) hx hb dL_programme_9 (by decide) ?_
    refine lv_iconst (v := 0) hx hb dL_programme_15 (by decide) ?_
    exact q_endL hC hP hS hO ⟨_, rfl, fun _ => rfl⟩ rfl hr hk0.symm (Nat.le_of_ble_eq_true rfl) (Nat.le_of_ble_eq_true rfl) dL_programme_16
def fL_on (w : qMem) (a1 : Int32) (a2 : Int32) (a3 : Int32) : Option (Int32 × Int32 × qMem) := qlh [1] (0 : Int32) (fX5_on w a1 a2 a3)
theorem qhd_L_on : yL_on.cls ≠ "java/lang/invoke/MethodHandle" ∧ yL_on.cls ≠ "java/lang/invoke/VarHandle" ∧ (parseMethodDescriptor yL_on.desc).map (fun d => d.parameters.length) = some 5 := ⟨by decide +kernel, by decide +kernel, by decide +kernel⟩
set_option maxHeartbeats 4000000 in
set_option maxRecDepth 100000 in
theorem mL_on {l : Launch} {D : va_G} {G : Nat → ClassId} {ad : Nat → Nat} (hJ : qInj ad) (hst : l.stackTraces = false) {w : qMem} {a1 : Int32} {a2 : Int32} {a3 : Int32} {kF : Int32} {rF : Int32} {wF : qMem} {o : Nat} {cA : ClassId} {f0 : Nat → Int64} (hf : fL_on w a1 a2 a3 = some (kF, rF, wF)) : qHL l D G ad yL_on cL_on 6 [(0, 12, 15, 13)] 7 1 6 [.ref (ad 228), .int a1, .int a2, .int a3, .ref o] w o cA .long (1, .inr (.inl f0)) kF (qPL kF rF.toInt64) wF := by
  obtain ⟨cE, r0, h0, hcase⟩ := qlh_s hf
  refine q_startL rfl (by decide +kernel) hJ (Nat.le_of_ble_eq_true rfl) ?_
  intro p e s m args below meth c0 ls hC hr hT hO0 hR hl
  have hx := hC.1
  have hb := hC.2.1
  have hts := hC.2.2.2.2.1
  have hown := hC.2.2.2.1
  have hl : lv_has ls 6 [(0, .ref (ad 228)), (1, .int a1), (2, .int a2), (3, .int a3), (4, .ref o)] := hl
  have hO : qOut o cA .long (1, .inr (.inl f0)) (qAdr ad s.heap.size) s s.heap := hO0
  refine lv_aload hx hb dL_on_0 (lv_at hl 4 rfl) ?_
  refine lv_iconst (v := 0) hx hb dL_on_2 (by decide) ?_
  refine lv_aload_n hx hb dL_on_3 rfl (lv_at hl 0 rfl) ?_
  refine lv_iload_n hx hb dL_on_4 rfl (lv_at hl 1 rfl) ?_
  refine lv_iload_n hx hb dL_on_5 rfl (lv_at hl 2 rfl) ?_
  refine lv_iload_n hx hb dL_on_6 rfl (lv_at hl 3 rfl) ?_
  refine qx_ki (As := [.int a1, .int a2, .int a3]) (rest := [.int 0, .ref o]) hC hR (mX5_on hJ hst h0) (by decide) (qsh_228 G ad _) rfl qkl_778 qk_779 qk_780 qk_58 qk_781 qhd_X5_on ⟨Nat.le_of_ble_eq_true rfl, Nat.le_of_ble_eq_true rfl⟩ hl.1 rfl (Nat.le_of_ble_eq_true rfl) dL_on_7 ⟨Nat.le_of_ble_eq_true rfl, Nat.le_of_ble_eq_true rfl⟩ (fun hne H locs ce q9 hz hk hR hce hcv hcl => ?_) (fun hc0 H locs hz hk hR => ?_)
  · have hO := qX_on qOut_k hO hz hk
    rcases hcase with ⟨h1, h2, h3⟩ | ⟨h1, h2, h3⟩ | ⟨h1, h2, h3⟩ | ⟨h1, h2, h3⟩
    · exact absurd h1 hne
    · have hcl2 : s.vm.findClass "java/lang/IllegalArgumentException" = some ce.cls := by rw [h2] at hcl; exact hcl
      refine vx_catch (own := RL) (name := "java/lang/IllegalArgumentException") (E := "java/lang/IllegalArgumentException") hown [] ⟨0, 12, 15, 13⟩ [] hT (fun z hz => by cases hz) (by decide) (by decide) (hts _ qkl_545) (va_Nw.use (q_kp_tab (List.mem_filter.mp qkc_13).2) (hC.2.2.2.2.2.2.2.2.2.2.2.2 _ qkc_13)) hce hcv hcl2 ?_
      refine lv_astore (lv' := [(5, .ref q9), (0, .ref (ad 228)), (1, .int a1), (2, .int a2), (3, .int a3), (4, .ref o)]) hx hb dL_on_15 hl (by decide) rfl (fun ls hl => ?_)
      refine lv_iconst (v := 1) hx hb dL_on_17 (by decide) ?_
      exact q_endL hC hR.1 (qS_do hR) hO ⟨f0, rfl, fun h => absurd (h3.symm.trans h) (by decide)⟩ rfl hr h3.symm (Nat.le_of_ble_eq_true rfl) (Nat.le_of_ble_eq_true rfl) dL_on_18
    · exact absurd h2 (by rw [show ([1] : List Nat).getD 1 0 = 0 from rfl]; exact h1)
    · exact absurd h2 (by rw [show ([1] : List Nat).getD 2 0 = 0 from rfl]; exact h1)
  · have hO := qX_on qOut_k hO hz hk
    have hk0 : kF = 0 ∧ rF = r0 := by
      rcases hcase with ⟨h1, h2, h3⟩ | ⟨h1, h2, h3⟩ | ⟨h1, h2, h3⟩ | ⟨h1, h2, h3⟩
      · exact ⟨h2, h3⟩
      · exact absurd hc0 h1
      · exact absurd hc0 h1
      · exact absurd hc0 h1
    obtain ⟨hk0, rfl⟩ := hk0
    refine lv_i2l hx hb dL_on_10 rfl ?_
    refine q_outL hC hR hO dL_on_11 (fun H locs hP hS hO => ?_)
    refine lv_goto (tgt := 19) hx hb dL_on_12 (by decide) ?_
    refine lv_iconst (v := 0) hx hb dL_on_19 (by decide) ?_
    exact q_endL hC hP hS hO ⟨_, rfl, fun _ => rfl⟩ rfl hr hk0.symm (Nat.le_of_ble_eq_true rfl) (Nat.le_of_ble_eq_true rfl) dL_on_20
def fL_wouldMark (w : qMem) (a1 : Int32) : Option (Int32 × Int32 × qMem) := qlh [1] (0 : Int32) (fX5_wouldMark w a1)
theorem qhd_L_wouldMark : yL_wouldMark.cls ≠ "java/lang/invoke/MethodHandle" ∧ yL_wouldMark.cls ≠ "java/lang/invoke/VarHandle" ∧ (parseMethodDescriptor yL_wouldMark.desc).map (fun d => d.parameters.length) = some 3 := ⟨by decide +kernel, by decide +kernel, by decide +kernel⟩
set_option maxHeartbeats 4000000 in
set_option maxRecDepth 100000 in
theorem mL_wouldMark {l : Launch} {D : va_G} {G : Nat → ClassId} {ad : Nat → Nat} (hJ : qInj ad) (hst : l.stackTraces = false) {w : qMem} {a1 : Int32} {kF : Int32} {rF : Int32} {wF : qMem} {o : Nat} {cA : ClassId} {f0 : Nat → Int64} (hf : fL_wouldMark w a1 = some (kF, rF, wF)) : qHL l D G ad yL_wouldMark cL_wouldMark 4 [(0, 9, 12, 13)] 8 1 6 [.ref (ad 228), .int a1, .ref o] w o cA .long (1, .inr (.inl f0)) kF (qPL kF rF.toInt64) wF := by
  obtain ⟨cE, r0, h0, hcase⟩ := qlh_s hf
  refine q_startL rfl (by decide +kernel) hJ (Nat.le_of_ble_eq_true rfl) ?_
  intro p e s m args below meth c0 ls hC hr hT hO0 hR hl
  have hx := hC.1
  have hb := hC.2.1
  have hts := hC.2.2.2.2.1
  have hown := hC.2.2.2.1
  have hl : lv_has ls 4 [(0, .ref (ad 228)), (1, .int a1), (2, .ref o)] := hl
  have hO : qOut o cA .long (1, .inr (.inl f0)) (qAdr ad s.heap.size) s s.heap := hO0
  refine lv_aload_n hx hb dL_wouldMark_0 rfl (lv_at hl 2 rfl) ?_
  refine lv_iconst (v := 0) hx hb dL_wouldMark_1 (by decide) ?_
  refine lv_aload_n hx hb dL_wouldMark_2 rfl (lv_at hl 0 rfl) ?_
  refine lv_iload_n hx hb dL_wouldMark_3 rfl (lv_at hl 1 rfl) ?_
  refine qx_ki (As := [.int a1]) (rest := [.int 0, .ref o]) hC hR (mX5_wouldMark hJ hst h0) (by decide) (qsh_228 G ad _) rfl qkl_786 qk_787 qk_788 qk_58 qk_789 qhd_X5_wouldMark ⟨Nat.le_of_ble_eq_true rfl, Nat.le_of_ble_eq_true rfl⟩ hl.1 rfl (Nat.le_of_ble_eq_true rfl) dL_wouldMark_4 ⟨Nat.le_of_ble_eq_true rfl, Nat.le_of_ble_eq_true rfl⟩ (fun hne H locs ce q9 hz hk hR hce hcv hcl => ?_) (fun hc0 H locs hz hk hR => ?_)
  · have hO := qX_on qOut_k hO hz hk
    rcases hcase with ⟨h1, h2, h3⟩ | ⟨h1, h2, h3⟩ | ⟨h1, h2, h3⟩ | ⟨h1, h2, h3⟩
    · exact absurd h1 hne
    · have hcl2 : s.vm.findClass "java/lang/IllegalArgumentException" = some ce.cls := by rw [h2] at hcl; exact hcl
      refine vx_catch (own := RL) (name := "java/lang/IllegalArgumentException") (E := "java/lang/IllegalArgumentException") hown [] ⟨0, 9, 12, 13⟩ [] hT (fun z hz => by cases hz) (by decide) (by decide) (hts _ qkl_545) (va_Nw.use (q_kp_tab (List.mem_filter.mp qkc_13).2) (hC.2.2.2.2.2.2.2.2.2.2.2.2 _ qkc_13)) hce hcv hcl2 ?_
      refine lv_astore_n (lv' := [(3, .ref q9), (0, .ref (ad 228)), (1, .int a1), (2, .ref o)]) hx hb dL_wouldMark_12 rfl hl (by decide) rfl (fun ls hl => ?_)
      refine lv_iconst (v := 1) hx hb dL_wouldMark_13 (by decide) ?_
      exact q_endL hC hR.1 (qS_do hR) hO ⟨f0, rfl, fun h => absurd (h3.symm.trans h) (by decide)⟩ rfl hr h3.symm (Nat.le_of_ble_eq_true rfl) (Nat.le_of_ble_eq_true rfl) dL_wouldMark_14
    · exact absurd h2 (by rw [show ([1] : List Nat).getD 1 0 = 0 from rfl]; exact h1)
    · exact absurd h2 (by rw [show ([1] : List Nat).getD 2 0 = 0 from rfl]; exact h1)
  · have hO := qX_on qOut_k hO hz hk
    have hk0 : kF = 0 ∧ rF = r0 := by
      rcases hcase with ⟨h1, h2, h3⟩ | ⟨h1, h2, h3⟩ | ⟨h1, h2, h3⟩ | ⟨h1, h2, h3⟩
      · exact ⟨h2, h3⟩
      · exact absurd hc0 h1
      · exact absurd hc0 h1
      · exact absurd hc0 h1
    obtain ⟨hk0, rfl⟩ := hk0
    refine lv_i2l hx hb dL_wouldMark_7 rfl ?_
    refine q_outL hC hR hO dL_wouldMark_8 (fun H locs hP hS hO => ?_)
    refine lv_goto (tgt := 15) hx hb dL_wouldMark_9 (by decide) ?_
    refine lv_iconst (v := 0) hx hb dL_wouldMark_15 (by decide) ?_
    exact q_endL hC hP hS hO ⟨_, rfl, fun _ => rfl⟩ rfl hr hk0.symm (Nat.le_of_ble_eq_true rfl) (Nat.le_of_ble_eq_true rfl) dL_wouldMark_16
def fL_wouldBreak (w : qMem) (a1 : Int32) (a2 : Int32) : Option (Int32 × Int32 × qMem) := qlh [1] (0 : Int32) (fX5_wouldBreak w a1 a2)
theorem qhd_L_wouldBreak : yL_wouldBreak.cls ≠ "java/lang/invoke/MethodHandle" ∧ yL_wouldBreak.cls ≠ "java/lang/invoke/VarHandle" ∧ (parseMethodDescriptor yL_wouldBreak.desc).map (fun d => d.parameters.length) = some 4 := ⟨by decide +kernel, by decide +kernel, by decide +kernel⟩
set_option maxHeartbeats 4000000 in
set_option maxRecDepth 100000 in
theorem mL_wouldBreak {l : Launch} {D : va_G} {G : Nat → ClassId} {ad : Nat → Nat} (hJ : qInj ad) (hst : l.stackTraces = false) {w : qMem} {a1 : Int32} {a2 : Int32} {kF : Int32} {rF : Int32} {wF : qMem} {o : Nat} {cA : ClassId} {f0 : Nat → Int64} (hf : fL_wouldBreak w a1 a2 = some (kF, rF, wF)) : qHL l D G ad yL_wouldBreak cL_wouldBreak 5 [(0, 10, 13, 13)] 8 1 6 [.ref (ad 228), .int a1, .int a2, .ref o] w o cA .long (1, .inr (.inl f0)) kF (qPL kF rF.toInt64) wF := by
  obtain ⟨cE, r0, h0, hcase⟩ := qlh_s hf
  refine q_startL rfl (by decide +kernel) hJ (Nat.le_of_ble_eq_true rfl) ?_
  intro p e s m args below meth c0 ls hC hr hT hO0 hR hl
  have hx := hC.1
  have hb := hC.2.1
  have hts := hC.2.2.2.2.1
  have hown := hC.2.2.2.1
  have hl : lv_has ls 5 [(0, .ref (ad 228)), (1, .int a1), (2, .int a2), (3, .ref o)] := hl
  have hO : qOut o cA .long (1, .inr (.inl f0)) (qAdr ad s.heap.size) s s.heap := hO0
  refine lv_aload_n hx hb dL_wouldBreak_0 rfl (lv_at hl 3 rfl) ?_
  refine lv_iconst (v := 0) hx hb dL_wouldBreak_1 (by decide) ?_
  refine lv_aload_n hx hb dL_wouldBreak_2 rfl (lv_at hl 0 rfl) ?_
  refine lv_iload_n hx hb dL_wouldBreak_3 rfl (lv_at hl 1 rfl) ?_
  refine lv_iload_n hx hb dL_wouldBreak_4 rfl (lv_at hl 2 rfl) ?_
  refine qx_ki (As := [.int a1, .int a2]) (rest := [.int 0, .ref o]) hC hR (mX5_wouldBreak hJ hst h0) (by decide) (qsh_228 G ad _) rfl qkl_796 qk_797 qk_798 qk_58 qk_799 qhd_X5_wouldBreak ⟨Nat.le_of_ble_eq_true rfl, Nat.le_of_ble_eq_true rfl⟩ hl.1 rfl (Nat.le_of_ble_eq_true rfl) dL_wouldBreak_5 ⟨Nat.le_of_ble_eq_true rfl, Nat.le_of_ble_eq_true rfl⟩ (fun hne H locs ce q9 hz hk hR hce hcv hcl => ?_) (fun hc0 H locs hz hk hR => ?_)
  · have hO := qX_on qOut_k hO hz hk
    rcases hcase with ⟨h1, h2, h3⟩ | ⟨h1, h2, h3⟩ | ⟨h1, h2, h3⟩ | ⟨h1, h2, h3⟩
    · exact absurd h1 hne
    · have hcl2 : s.vm.findClass "java/lang/IllegalArgumentException" = some ce.cls := by rw [h2] at hcl; exact hcl
      refine vx_catch (own := RL) (name := "java/lang/IllegalArgumentException") (E := "java/lang/IllegalArgumentException") hown [] ⟨0, 10, 13, 13⟩ [] hT (fun z hz => by cases hz) (by decide) (by decide) (hts _ qkl_545) (va_Nw.use (q_kp_tab (List.mem_filter.mp qkc_13).2) (hC.2.2.2.2.2.2.2.2.2.2.2.2 _ qkc_13)) hce hcv hcl2 ?_
      refine lv_astore (lv' := [(4, .ref q9), (0, .ref (ad 228)), (1, .int a1), (2, .int a2), (3, .ref o)]) hx hb dL_wouldBreak_13 hl (by decide) rfl (fun ls hl => ?_)
      refine lv_iconst (v := 1) hx hb dL_wouldBreak_15 (by decide) ?_
      exact q_endL hC hR.1 (qS_do hR) hO ⟨f0, rfl, fun h => absurd (h3.symm.trans h) (by decide)⟩ rfl hr h3.symm (Nat.le_of_ble_eq_true rfl) (Nat.le_of_ble_eq_true rfl) dL_wouldBreak_16
    · exact absurd h2 (by rw [show ([1] : List Nat).getD 1 0 = 0 from rfl]; exact h1)
    · exact absurd h2 (by rw [show ([1] : List Nat).getD 2 0 = 0 from rfl]; exact h1)
  · have hO := qX_on qOut_k hO hz hk
    have hk0 : kF = 0 ∧ rF = r0 := by
      rcases hcase with ⟨h1, h2, h3⟩ | ⟨h1, h2, h3⟩ | ⟨h1, h2, h3⟩ | ⟨h1, h2, h3⟩
      · exact ⟨h2, h3⟩
      · exact absurd hc0 h1
      · exact absurd hc0 h1
      · exact absurd hc0 h1
    obtain ⟨hk0, rfl⟩ := hk0
    refine lv_i2l hx hb dL_wouldBreak_8 rfl ?_
    refine q_outL hC hR hO dL_wouldBreak_9 (fun H locs hP hS hO => ?_)
    refine lv_goto (tgt := 17) hx hb dL_wouldBreak_10 (by decide) ?_
    refine lv_iconst (v := 0) hx hb dL_wouldBreak_17 (by decide) ?_
    exact q_endL hC hP hS hO ⟨_, rfl, fun _ => rfl⟩ rfl hr hk0.symm (Nat.le_of_ble_eq_true rfl) (Nat.le_of_ble_eq_true rfl) dL_wouldBreak_18
def fL_leastBreaking (w : qMem)  : Option (Int32 × Int32 × qMem) := qlh [4] (0 : Int32) (fX5_leastBreaking w)
theorem qhd_L_leastBreaking : yL_leastBreaking.cls ≠ "java/lang/invoke/MethodHandle" ∧ yL_leastBreaking.cls ≠ "java/lang/invoke/VarHandle" ∧ (parseMethodDescriptor yL_leastBreaking.desc).map (fun d => d.parameters.length) = some 2 := ⟨by decide +kernel, by decide +kernel, by decide +kernel⟩
set_option maxHeartbeats 4000000 in
set_option maxRecDepth 100000 in
theorem mL_leastBreaking {l : Launch} {D : va_G} {G : Nat → ClassId} {ad : Nat → Nat} (hJ : qInj ad) (hst : l.stackTraces = false) {w : qMem}  {kF : Int32} {rF : Int32} {wF : qMem} {o : Nat} {cA : ClassId} {f0 : Nat → Int64} (hf : fL_leastBreaking w = some (kF, rF, wF)) : qHL l D G ad yL_leastBreaking cL_leastBreaking 3 [(0, 8, 11, 48)] 7 1 6 [.ref (ad 228), .ref o] w o cA .long (1, .inr (.inl f0)) kF (qPL kF rF.toInt64) wF := by
  obtain ⟨cE, r0, h0, hcase⟩ := qlh_s hf
  refine q_startL rfl (by decide +kernel) hJ (Nat.le_of_ble_eq_true rfl) ?_
  intro p e s m args below meth c0 ls hC hr hT hO0 hR hl
  have hx := hC.1
  have hb := hC.2.1
  have hts := hC.2.2.2.2.1
  have hown := hC.2.2.2.1
  have hl : lv_has ls 3 [(0, .ref (ad 228)), (1, .ref o)] := hl
  have hO : qOut o cA .long (1, .inr (.inl f0)) (qAdr ad s.heap.size) s s.heap := hO0
  refine lv_aload_n hx hb dL_leastBreaking_0 rfl (lv_at hl 1 rfl) ?_
  refine lv_iconst (v := 0) hx hb dL_leastBreaking_1 (by decide) ?_
  refine lv_aload_n hx hb dL_leastBreaking_2 rfl (lv_at hl 0 rfl) ?_
  refine qx_ki (As := []) (rest := [.int 0, .ref o]) hC hR (mX5_leastBreaking hJ hst h0) (by decide) (qsh_228 G ad _) rfl qkl_803 qk_804 qk_805 qk_58 qk_806 qhd_X5_leastBreaking ⟨Nat.le_of_ble_eq_true rfl, Nat.le_of_ble_eq_true rfl⟩ hl.1 rfl (Nat.le_of_ble_eq_true rfl) dL_leastBreaking_3 ⟨Nat.le_of_ble_eq_true rfl, Nat.le_of_ble_eq_true rfl⟩ (fun hne H locs ce q9 hz hk hR hce hcv hcl => ?_) (fun hc0 H locs hz hk hR => ?_)
  · have hO := qX_on qOut_k hO hz hk
    rcases hcase with ⟨h1, h2, h3⟩ | ⟨h1, h2, h3⟩ | ⟨h1, h2, h3⟩ | ⟨h1, h2, h3⟩
    · exact absurd h1 hne
    · have hcl2 : s.vm.findClass "java/util/NoSuchElementException" = some ce.cls := by rw [h2] at hcl; exact hcl
      refine vx_catch (own := RL) (name := "java/util/NoSuchElementException") (E := "java/util/NoSuchElementException") hown [] ⟨0, 8, 11, 48⟩ [] hT (fun z hz => by cases hz) (by decide) (by decide) (hts _ qkl_753) (va_Nw.use (q_kp_tab (List.mem_filter.mp qkc_48).2) (hC.2.2.2.2.2.2.2.2.2.2.2.2 _ qkc_48)) hce hcv hcl2 ?_
      refine lv_astore_n (lv' := [(2, .ref q9), (0, .ref (ad 228)), (1, .ref o)]) hx hb dL_leastBreaking_11 rfl hl (by decide) rfl (fun ls hl => ?_)
      refine lv_iconst (v := 1) hx hb dL_leastBreaking_12 (by decide) ?_
      exact q_endL hC hR.1 (qS_do hR) hO ⟨f0, rfl, fun h => absurd (h3.symm.trans h) (by decide)⟩ rfl hr h3.symm (Nat.le_of_ble_eq_true rfl) (Nat.le_of_ble_eq_true rfl) dL_leastBreaking_13
    · exact absurd h2 (by rw [show ([4] : List Nat).getD 1 0 = 0 from rfl]; exact h1)
    · exact absurd h2 (by rw [show ([4] : List Nat).getD 2 0 = 0 from rfl]; exact h1)
  · have hO := qX_on qOut_k hO hz hk
    have hk0 : kF = 0 ∧ rF = r0 := by
      rcases hcase with ⟨h1, h2, h3⟩ | ⟨h1, h2, h3⟩ | ⟨h1, h2, h3⟩ | ⟨h1, h2, h3⟩
      · exact ⟨h2, h3⟩
      · exact absurd hc0 h1
      · exact absurd hc0 h1
      · exact absurd hc0 h1
    obtain ⟨hk0, rfl⟩ := hk0
    refine lv_i2l hx hb dL_leastBreaking_6 rfl ?_
    refine q_outL hC hR hO dL_leastBreaking_7 (fun H locs hP hS hO => ?_)
    refine lv_goto (tgt := 14) hx hb dL_leastBreaking_8 (by decide) ?_
    refine lv_iconst (v := 0) hx hb dL_leastBreaking_14 (by decide) ?_
    exact q_endL hC hP hS hO ⟨_, rfl, fun _ => rfl⟩ rfl hr hk0.symm (Nat.le_of_ble_eq_true rfl) (Nat.le_of_ble_eq_true rfl) dL_leastBreaking_15
def fL_shocksFor (w : qMem) (a1 : Int32) : Option (Int32 × Int32 × qMem) := qlh [3] (0 : Int32) (fX5_shocksFor w a1)
theorem qhd_L_shocksFor : yL_shocksFor.cls ≠ "java/lang/invoke/MethodHandle" ∧ yL_shocksFor.cls ≠ "java/lang/invoke/VarHandle" ∧ (parseMethodDescriptor yL_shocksFor.desc).map (fun d => d.parameters.length) = some 3 := ⟨by decide +kernel, by decide +kernel, by decide +kernel⟩
set_option maxHeartbeats 4000000 in
set_option maxRecDepth 100000 in
theorem mL_shocksFor {l : Launch} {D : va_G} {G : Nat → ClassId} {ad : Nat → Nat} (hJ : qInj ad) (hst : l.stackTraces = false) {w : qMem} {a1 : Int32} {kF : Int32} {rF : Int32} {wF : qMem} {o : Nat} {cA : ClassId} {f0 : Nat → Int64} (hf : fL_shocksFor w a1 = some (kF, rF, wF)) : qHL l D G ad yL_shocksFor cL_shocksFor 4 [(0, 9, 12, 27)] 8 1 6 [.ref (ad 228), .int a1, .ref o] w o cA .long (1, .inr (.inl f0)) kF (qPL kF rF.toInt64) wF := by
  obtain ⟨cE, r0, h0, hcase⟩ := qlh_s hf
  refine q_startL rfl (by decide +kernel) hJ (Nat.le_of_ble_eq_true rfl) ?_
  intro p e s m args below meth c0 ls hC hr hT hO0 hR hl
  have hx := hC.1
  have hb := hC.2.1
  have hts := hC.2.2.2.2.1
  have hown := hC.2.2.2.1
  have hl : lv_has ls 4 [(0, .ref (ad 228)), (1, .int a1), (2, .ref o)] := hl
  have hO : qOut o cA .long (1, .inr (.inl f0)) (qAdr ad s.heap.size) s s.heap := hO0
  refine lv_aload_n hx hb dL_shocksFor_0 rfl (lv_at hl 2 rfl) ?_
  refine lv_iconst (v := 0) hx hb dL_shocksFor_1 (by decide) ?_
  refine lv_aload_n hx hb dL_shocksFor_2 rfl (lv_at hl 0 rfl) ?_
  refine lv_iload_n hx hb dL_shocksFor_3 rfl (lv_at hl 1 rfl) ?_
  refine qx_ki (As := [.int a1]) (rest := [.int 0, .ref o]) hC hR (mX5_shocksFor hJ hst h0) (by decide) (qsh_228 G ad _) rfl qkl_811 qk_812 qk_813 qk_58 qk_814 qhd_X5_shocksFor ⟨Nat.le_of_ble_eq_true rfl, Nat.le_of_ble_eq_true rfl⟩ hl.1 rfl (Nat.le_of_ble_eq_true rfl) dL_shocksFor_4 ⟨Nat.le_of_ble_eq_true rfl, Nat.le_of_ble_eq_true rfl⟩ (fun hne H locs ce q9 hz hk hR hce hcv hcl => ?_) (fun hc0 H locs hz hk hR => ?_)
  · have hO := qX_on qOut_k hO hz hk
    rcases hcase with ⟨h1, h2, h3⟩ | ⟨h1, h2, h3⟩ | ⟨h1, h2, h3⟩ | ⟨h1, h2, h3⟩
    · exact absurd h1 hne
    · have hcl2 : s.vm.findClass "java/lang/IndexOutOfBoundsException" = some ce.cls := by rw [h2] at hcl; exact hcl
      refine vx_catch (own := RL) (name := "java/lang/IndexOutOfBoundsException") (E := "java/lang/IndexOutOfBoundsException") hown [] ⟨0, 9, 12, 27⟩ [] hT (fun z hz => by cases hz) (by decide) (by decide) (hts _ qkl_660) (va_Nw.use (q_kp_tab (List.mem_filter.mp qkc_27).2) (hC.2.2.2.2.2.2.2.2.2.2.2.2 _ qkc_27)) hce hcv hcl2 ?_
      refine lv_astore_n (lv' := [(3, .ref q9), (0, .ref (ad 228)), (1, .int a1), (2, .ref o)]) hx hb dL_shocksFor_12 rfl hl (by decide) rfl (fun ls hl => ?_)
      refine lv_iconst (v := 1) hx hb dL_shocksFor_13 (by decide) ?_
      exact q_endL hC hR.1 (qS_do hR) hO ⟨f0, rfl, fun h => absurd (h3.symm.trans h) (by decide)⟩ rfl hr h3.symm (Nat.le_of_ble_eq_true rfl) (Nat.le_of_ble_eq_true rfl) dL_shocksFor_14
    · exact absurd h2 (by rw [show ([3] : List Nat).getD 1 0 = 0 from rfl]; exact h1)
    · exact absurd h2 (by rw [show ([3] : List Nat).getD 2 0 = 0 from rfl]; exact h1)
  · have hO := qX_on qOut_k hO hz hk
    have hk0 : kF = 0 ∧ rF = r0 := by
      rcases hcase with ⟨h1, h2, h3⟩ | ⟨h1, h2, h3⟩ | ⟨h1, h2, h3⟩ | ⟨h1, h2, h3⟩
      · exact ⟨h2, h3⟩
      · exact absurd hc0 h1
      · exact absurd hc0 h1
      · exact absurd hc0 h1
    obtain ⟨hk0, rfl⟩ := hk0
    refine lv_i2l hx hb dL_shocksFor_7 rfl ?_
    refine q_outL hC hR hO dL_shocksFor_8 (fun H locs hP hS hO => ?_)
    refine lv_goto (tgt := 15) hx hb dL_shocksFor_9 (by decide) ?_
    refine lv_iconst (v := 0) hx hb dL_shocksFor_15 (by decide) ?_
    exact q_endL hC hP hS hO ⟨_, rfl, fun _ => rfl⟩ rfl hr hk0.symm (Nat.le_of_ble_eq_true rfl) (Nat.le_of_ble_eq_true rfl) dL_shocksFor_16
def fL_isBroken (w : qMem) (a1 : Int32) : Option (Int32 × Int32 × qMem) := qlh [3] (0 : Int32) (fX5_isBroken w a1)
theorem qhd_L_isBroken : yL_isBroken.cls ≠ "java/lang/invoke/MethodHandle" ∧ yL_isBroken.cls ≠ "java/lang/invoke/VarHandle" ∧ (parseMethodDescriptor yL_isBroken.desc).map (fun d => d.parameters.length) = some 3 := ⟨by decide +kernel, by decide +kernel, by decide +kernel⟩
set_option maxHeartbeats 4000000 in
set_option maxRecDepth 100000 in
theorem mL_isBroken {l : Launch} {D : va_G} {G : Nat → ClassId} {ad : Nat → Nat} (hJ : qInj ad) (hst : l.stackTraces = false) {w : qMem} {a1 : Int32} {kF : Int32} {rF : Int32} {wF : qMem} {o : Nat} {cA : ClassId} {f0 : Nat → Int64} (hf : fL_isBroken w a1 = some (kF, rF, wF)) : qHL l D G ad yL_isBroken cL_isBroken 4 [(0, 16, 19, 27)] 8 1 6 [.ref (ad 228), .int a1, .ref o] w o cA .long (1, .inr (.inl f0)) kF (qPL kF (if rF = 0 then 0 else 1)) wF := by
  obtain ⟨cE, r0, h0, hcase⟩ := qlh_s hf
  refine q_startL rfl (by decide +kernel) hJ (Nat.le_of_ble_eq_true rfl) ?_
  intro p e s m args below meth c0 ls hC hr hT hO0 hR hl
  have hx := hC.1
  have hb := hC.2.1
  have hts := hC.2.2.2.2.1
  have hown := hC.2.2.2.1
  have hl : lv_has ls 4 [(0, .ref (ad 228)), (1, .int a1), (2, .ref o)] := hl
  have hO : qOut o cA .long (1, .inr (.inl f0)) (qAdr ad s.heap.size) s s.heap := hO0
  refine lv_aload_n hx hb dL_isBroken_0 rfl (lv_at hl 2 rfl) ?_
  refine lv_iconst (v := 0) hx hb dL_isBroken_1 (by decide) ?_
  refine lv_aload_n hx hb dL_isBroken_2 rfl (lv_at hl 0 rfl) ?_
  refine lv_iload_n hx hb dL_isBroken_3 rfl (lv_at hl 1 rfl) ?_
  refine qx_ki (As := [.int a1]) (rest := [.int 0, .ref o]) hC hR (mX5_isBroken hJ hst h0) (by decide) (qsh_228 G ad _) rfl qkl_818 qk_819 qk_820 qk_58 qk_821 qhd_X5_isBroken ⟨Nat.le_of_ble_eq_true rfl, Nat.le_of_ble_eq_true rfl⟩ hl.1 rfl (Nat.le_of_ble_eq_true rfl) dL_isBroken_4 ⟨Nat.le_of_ble_eq_true rfl, Nat.le_of_ble_eq_true rfl⟩ (fun hne H locs ce q9 hz hk hR hce hcv hcl => ?_) (fun hc0 H locs hz hk hR => ?_)
  · have hO := qX_on qOut_k hO hz hk
    rcases hcase with ⟨h1, h2, h3⟩ | ⟨h1, h2, h3⟩ | ⟨h1, h2, h3⟩ | ⟨h1, h2, h3⟩
    · exact absurd h1 hne
    · have hcl2 : s.vm.findClass "java/lang/IndexOutOfBoundsException" = some ce.cls := by rw [h2] at hcl; exact hcl
      refine vx_catch (own := RL) (name := "java/lang/IndexOutOfBoundsException") (E := "java/lang/IndexOutOfBoundsException") hown [] ⟨0, 16, 19, 27⟩ [] hT (fun z hz => by cases hz) (by decide) (by decide) (hts _ qkl_660) (va_Nw.use (q_kp_tab (List.mem_filter.mp qkc_27).2) (hC.2.2.2.2.2.2.2.2.2.2.2.2 _ qkc_27)) hce hcv hcl2 ?_
      refine lv_astore_n (lv' := [(3, .ref q9), (0, .ref (ad 228)), (1, .int a1), (2, .ref o)]) hx hb dL_isBroken_19 rfl hl (by decide) rfl (fun ls hl => ?_)
      refine lv_iconst (v := 1) hx hb dL_isBroken_20 (by decide) ?_
      exact q_endL hC hR.1 (qS_do hR) hO ⟨f0, rfl, fun h => absurd (h3.symm.trans h) (by decide)⟩ rfl hr h3.symm (Nat.le_of_ble_eq_true rfl) (Nat.le_of_ble_eq_true rfl) dL_isBroken_21
    · exact absurd h2 (by rw [show ([3] : List Nat).getD 1 0 = 0 from rfl]; exact h1)
    · exact absurd h2 (by rw [show ([3] : List Nat).getD 2 0 = 0 from rfl]; exact h1)
  · have hO := qX_on qOut_k hO hz hk
    have hk0 : kF = 0 ∧ rF = r0 := by
      rcases hcase with ⟨h1, h2, h3⟩ | ⟨h1, h2, h3⟩ | ⟨h1, h2, h3⟩ | ⟨h1, h2, h3⟩
      · exact ⟨h2, h3⟩
      · exact absurd hc0 h1
      · exact absurd hc0 h1
      · exact absurd hc0 h1
    obtain ⟨hk0, rfl⟩ := hk0
    refine lv_if_eq (tgt := 14) hx hb dL_isBroken_7 (by decide) (fun c_1 => ?_) (fun c_1 => ?_)
    · refine lv_lconst (v := 0) hx hb dL_isBroken_14 (by decide) ?_
      refine q_outL hC hR hO dL_isBroken_15 (fun H locs hP hS hO => ?_)
      refine lv_goto (tgt := 22) hx hb dL_isBroken_16 (by decide) ?_
      refine lv_iconst (v := 0) hx hb dL_isBroken_22 (by decide) ?_
      exact q_endL hC hP hS hO ⟨_, rfl, fun _ => (by rw [if_pos c_1]; rfl)⟩ rfl hr hk0.symm (Nat.le_of_ble_eq_true rfl) (Nat.le_of_ble_eq_true rfl) dL_isBroken_23
    · refine lv_lconst (v := 1) hx hb dL_isBroken_10 (by decide) ?_
      refine lv_goto (tgt := 15) hx hb dL_isBroken_11 (by decide) ?_
      refine q_outL hC hR hO dL_isBroken_15 (fun H locs hP hS hO => ?_)
      refine lv_goto (tgt := 22) hx hb dL_isBroken_16 (by decide) ?_
      refine lv_iconst (v := 0) hx hb dL_isBroken_22 (by decide) ?_
      exact q_endL hC hP hS hO ⟨_, rfl, fun _ => (by rw [if_neg c_1]; rfl)⟩ rfl hr hk0.symm (Nat.le_of_ble_eq_true rfl) (Nat.le_of_ble_eq_true rfl) dL_isBroken_23
def fL_cupAt (w : qMem) (a1 : Int32) : Option (Int32 × Int32 × qMem) := qlh [4] (0 : Int32) (fX5_cupAt w a1)
theorem qhd_L_cupAt : yL_cupAt.cls ≠ "java/lang/invoke/MethodHandle" ∧ yL_cupAt.cls ≠ "java/lang/invoke/VarHandle" ∧ (parseMethodDescriptor yL_cupAt.desc).map (fun d => d.parameters.length) = some 3 := ⟨by decide +kernel, by decide +kernel, by decide +kernel⟩
set_option maxHeartbeats 4000000 in
set_option maxRecDepth 100000 in
theorem mL_cupAt {l : Launch} {D : va_G} {G : Nat → ClassId} {ad : Nat → Nat} (hJ : qInj ad) (hst : l.stackTraces = false) {w : qMem} {a1 : Int32} {kF : Int32} {rF : Int32} {wF : qMem} {o : Nat} {cA : ClassId} {f0 : Nat → Int64} (hf : fL_cupAt w a1 = some (kF, rF, wF)) : qHL l D G ad yL_cupAt cL_cupAt 4 [(0, 9, 12, 48)] 8 1 6 [.ref (ad 228), .int a1, .ref o] w o cA .long (1, .inr (.inl f0)) kF (qPL kF rF.toInt64) wF := by
  obtain ⟨cE, r0, h0, hcase⟩ := qlh_s hf
  refine q_startL rfl (by decide +kernel) hJ (Nat.le_of_ble_eq_true rfl) ?_
  intro p e s m args below meth c0 ls hC hr hT hO0 hR hl
  have hx := hC.1
  have hb := hC.2.1
  have hts := hC.2.2.2.2.1
  have hown := hC.2.2.2.1
  have hl : lv_has ls 4 [(0, .ref (ad 228)), (1, .int a1), (2, .ref o)] := hl
  have hO : qOut o cA .long (1, .inr (.inl f0)) (qAdr ad s.heap.size) s s.heap := hO0
  refine lv_aload_n hx hb dL_cupAt_0 rfl (lv_at hl 2 rfl) ?_
  refine lv_iconst (v := 0) hx hb dL_cupAt_1 (by decide) ?_
  refine lv_aload_n hx hb dL_cupAt_2 rfl (lv_at hl 0 rfl) ?_
  refine lv_iload_n hx hb dL_cupAt_3 rfl (lv_at hl 1 rfl) ?_
  refine qx_ki (As := [.int a1]) (rest := [.int 0, .ref o]) hC hR (mX5_cupAt hJ hst h0) (by decide) (qsh_228 G ad _) rfl qkl_825 qk_826 qk_827 qk_58 qk_828 qhd_X5_cupAt ⟨Nat.le_of_ble_eq_true rfl, Nat.le_of_ble_eq_true rfl⟩ hl.1 rfl (Nat.le_of_ble_eq_true rfl) dL_cupAt_4 ⟨Nat.le_of_ble_eq_true rfl, Nat.le_of_ble_eq_true rfl⟩ (fun hne H locs ce q9 hz hk hR hce hcv hcl => ?_) (fun hc0 H locs hz hk hR => ?_)
  · have hO := qX_on qOut_k hO hz hk
    rcases hcase with ⟨h1, h2, h3⟩ | ⟨h1, h2, h3⟩ | ⟨h1, h2, h3⟩ | ⟨h1, h2, h3⟩
    · exact absurd h1 hne
    · have hcl2 : s.vm.findClass "java/util/NoSuchElementException" = some ce.cls := by rw [h2] at hcl; exact hcl
      refine vx_catch (own := RL) (name := "java/util/NoSuchElementException") (E := "java/util/NoSuchElementException") hown [] ⟨0, 9, 12, 48⟩ [] hT (fun z hz => by cases hz) (by decide) (by decide) (hts _ qkl_753) (va_Nw.use (q_kp_tab (List.mem_filter.mp qkc_48).2) (hC.2.2.2.2.2.2.2.2.2.2.2.2 _ qkc_48)) hce hcv hcl2 ?_
      refine lv_astore_n (lv' := [(3, .ref q9), (0, .ref (ad 228)), (1, .int a1), (2, .ref o)]) hx hb dL_cupAt_12 rfl hl (by decide) rfl (fun ls hl => ?_)
      refine lv_iconst (v := 1) hx hb dL_cupAt_13 (by decide) ?_
      exact q_endL hC hR.1 (qS_do hR) hO ⟨f0, rfl, fun h => absurd (h3.symm.trans h) (by decide)⟩ rfl hr h3.symm (Nat.le_of_ble_eq_true rfl) (Nat.le_of_ble_eq_true rfl) dL_cupAt_14
    · exact absurd h2 (by rw [show ([4] : List Nat).getD 1 0 = 0 from rfl]; exact h1)
    · exact absurd h2 (by rw [show ([4] : List Nat).getD 2 0 = 0 from rfl]; exact h1)
  · have hO := qX_on qOut_k hO hz hk
    have hk0 : kF = 0 ∧ rF = r0 := by
      rcases hcase with ⟨h1, h2, h3⟩ | ⟨h1, h2, h3⟩ | ⟨h1, h2, h3⟩ | ⟨h1, h2, h3⟩
      · exact ⟨h2, h3⟩
      · exact absurd hc0 h1
      · exact absurd hc0 h1
      · exact absurd hc0 h1
    obtain ⟨hk0, rfl⟩ := hk0
    refine lv_i2l hx hb dL_cupAt_7 rfl ?_
    refine q_outL hC hR hO dL_cupAt_8 (fun H locs hP hS hO => ?_)
    refine lv_goto (tgt := 15) hx hb dL_cupAt_9 (by decide) ?_
    refine lv_iconst (v := 0) hx hb dL_cupAt_15 (by decide) ?_
    exact q_endL hC hP hS hO ⟨_, rfl, fun _ => rfl⟩ rfl hr hk0.symm (Nat.le_of_ble_eq_true rfl) (Nat.le_of_ble_eq_true rfl) dL_cupAt_16
def fL_lampAt (w : qMem) (a1 : Int32) : Option (Int32 × Int32 × qMem) := qlh [4] (0 : Int32) (fX5_lampAt w a1)
theorem qhd_L_lampAt : yL_lampAt.cls ≠ "java/lang/invoke/MethodHandle" ∧ yL_lampAt.cls ≠ "java/lang/invoke/VarHandle" ∧ (parseMethodDescriptor yL_lampAt.desc).map (fun d => d.parameters.length) = some 3 := ⟨by decide +kernel, by decide +kernel, by decide +kernel⟩
set_option maxHeartbeats 4000000 in
set_option maxRecDepth 100000 in
theorem mL_lampAt {l : Launch} {D : va_G} {G : Nat → ClassId} {ad : Nat → Nat} (hJ : qInj ad) (hst : l.stackTraces = false) {w : qMem} {a1 : Int32} {kF : Int32} {rF : Int32} {wF : qMem} {o : Nat} {cA : ClassId} {f0 : Nat → Int64} (hf : fL_lampAt w a1 = some (kF, rF, wF)) : qHL l D G ad yL_lampAt cL_lampAt 4 [(0, 9, 12, 48)] 8 1 6 [.ref (ad 228), .int a1, .ref o] w o cA .long (1, .inr (.inl f0)) kF (qPL kF rF.toInt64) wF := by
  obtain ⟨cE, r0, h0, hcase⟩ := qlh_s hf
  refine q_startL rfl (by decide +kernel) hJ (Nat.le_of_ble_eq_true rfl) ?_
  intro p e s m args below meth c0 ls hC hr hT hO0 hR hl
  have hx := hC.1
  have hb := hC.2.1
  have hts := hC.2.2.2.2.1
  have hown := hC.2.2.2.1
  have hl : lv_has ls 4 [(0, .ref (ad 228)), (1, .int a1), (2, .ref o)] := hl
  have hO : qOut o cA .long (1, .inr (.inl f0)) (qAdr ad s.heap.size) s s.heap := hO0
  refine lv_aload_n hx hb dL_lampAt_0 rfl (lv_at hl 2 rfl) ?_
  refine lv_iconst (v := 0) hx hb dL_lampAt_1 (by decide) ?_
  refine lv_aload_n hx hb dL_lampAt_2 rfl (lv_at hl 0 rfl) ?_
  refine lv_iload_n hx hb dL_lampAt_3 rfl (lv_at hl 1 rfl) ?_
  refine qx_ki (As := [.int a1]) (rest := [.int 0, .ref o]) hC hR (mX5_lampAt hJ hst h0) (by decide) (qsh_228 G ad _) rfl qkl_852 qk_853 qk_854 qk_58 qk_855 qhd_X5_lampAt ⟨Nat.le_of_ble_eq_true rfl, Nat.le_of_ble_eq_true rfl⟩ hl.1 rfl (Nat.le_of_ble_eq_true rfl) dL_lampAt_4 ⟨Nat.le_of_ble_eq_true rfl, Nat.le_of_ble_eq_true rfl⟩ (fun hne H locs ce q9 hz hk hR hce hcv hcl => ?_) (fun hc0 H locs hz hk hR => ?_)
  · have hO := qX_on qOut_k hO hz hk
    rcases hcase with ⟨h1, h2, h3⟩ | ⟨h1, h2, h3⟩ | ⟨h1, h2, h3⟩ | ⟨h1, h2, h3⟩
    · exact absurd h1 hne
    · have hcl2 : s.vm.findClass "java/util/NoSuchElementException" = some ce.cls := by rw [h2] at hcl; exact hcl
      refine vx_catch (own := RL) (name := "java/util/NoSuchElementException") (E := "java/util/NoSuchElementException") hown [] ⟨0, 9, 12, 48⟩ [] hT (fun z hz => by cases hz) (by decide) (by decide) (hts _ qkl_753) (va_Nw.use (q_kp_tab (List.mem_filter.mp qkc_48).2) (hC.2.2.2.2.2.2.2.2.2.2.2.2 _ qkc_48)) hce hcv hcl2 ?_
      refine lv_astore_n (lv' := [(3, .ref q9), (0, .ref (ad 228)), (1, .int a1), (2, .ref o)]) hx hb dL_lampAt_12 rfl hl (by decide) rfl (fun ls hl => ?_)
      refine lv_iconst (v := 1) hx hb dL_lampAt_13 (by decide) ?_
      exact q_endL hC hR.1 (qS_do hR) hO ⟨f0, rfl, fun h => absurd (h3.symm.trans h) (by decide)⟩ rfl hr h3.symm (Nat.le_of_ble_eq_true rfl) (Nat.le_of_ble_eq_true rfl) dL_lampAt_14
    · exact absurd h2 (by rw [show ([4] : List Nat).getD 1 0 = 0 from rfl]; exact h1)
    · exact absurd h2 (by rw [show ([4] : List Nat).getD 2 0 = 0 from rfl]; exact h1)
  · have hO := qX_on qOut_k hO hz hk
    have hk0 : kF = 0 ∧ rF = r0 := by
      rcases hcase with ⟨h1, h2, h3⟩ | ⟨h1, h2, h3⟩ | ⟨h1, h2, h3⟩ | ⟨h1, h2, h3⟩
      · exact ⟨h2, h3⟩
      · exact absurd hc0 h1
      · exact absurd hc0 h1
      · exact absurd hc0 h1
    obtain ⟨hk0, rfl⟩ := hk0
    refine lv_i2l hx hb dL_lampAt_7 rfl ?_
    refine q_outL hC hR hO dL_lampAt_8 (fun H locs hP hS hO => ?_)
    refine lv_goto (tgt := 15) hx hb dL_lampAt_9 (by decide) ?_
    refine lv_iconst (v := 0) hx hb dL_lampAt_15 (by decide) ?_
    exact q_endL hC hP hS hO ⟨_, rfl, fun _ => rfl⟩ rfl hr hk0.symm (Nat.le_of_ble_eq_true rfl) (Nat.le_of_ble_eq_true rfl) dL_lampAt_16
def fL_catAt (w : qMem) (a1 : Int32) : Option (Int32 × Int32 × qMem) := qlh [4] (0 : Int32) (fX5_catAt w a1)
theorem qhd_L_catAt : yL_catAt.cls ≠ "java/lang/invoke/MethodHandle" ∧ yL_catAt.cls ≠ "java/lang/invoke/VarHandle" ∧ (parseMethodDescriptor yL_catAt.desc).map (fun d => d.parameters.length) = some 3 := ⟨by decide +kernel, by decide +kernel, by decide +kernel⟩
set_option maxHeartbeats 4000000 in
set_option maxRecDepth 100000 in
theorem mL_catAt {l : Launch} {D : va_G} {G : Nat → ClassId} {ad : Nat → Nat} (hJ : qInj ad) (hst : l.stackTraces = false) {w : qMem} {a1 : Int32} {kF : Int32} {rF : Int32} {wF : qMem} {o : Nat} {cA : ClassId} {f0 : Nat → Int64} (hf : fL_catAt w a1 = some (kF, rF, wF)) : qHL l D G ad yL_catAt cL_catAt 4 [(0, 9, 12, 48)] 8 1 6 [.ref (ad 228), .int a1, .ref o] w o cA .long (1, .inr (.inl f0)) kF (qPL kF rF.toInt64) wF := by
  obtain ⟨cE, r0, h0, hcase⟩ := qlh_s hf
  refine q_startL rfl (by decide +kernel) hJ (Nat.le_of_ble_eq_true rfl) ?_
  intro p e s m args below meth c0 ls hC hr hT hO0 hR hl
  have hx := hC.1
  have hb := hC.2.1
  have hts := hC.2.2.2.2.1
  have hown := hC.2.2.2.1
  have hl : lv_has ls 4 [(0, .ref (ad 228)), (1, .int a1), (2, .ref o)] := hl
  have hO : qOut o cA .long (1, .inr (.inl f0)) (qAdr ad s.heap.size) s s.heap := hO0
  refine lv_aload_n hx hb dL_catAt_0 rfl (lv_at hl 2 rfl) ?_
  refine lv_iconst (v := 0) hx hb dL_catAt_1 (by decide) ?_
  refine lv_aload_n hx hb dL_catAt_2 rfl (lv_at hl 0 rfl) ?_
  refine lv_iload_n hx hb dL_catAt_3 rfl (lv_at hl 1 rfl) ?_
  refine qx_ki (As := [.int a1]) (rest := [.int 0, .ref o]) hC hR (mX5_catAt hJ hst h0) (by decide) (qsh_228 G ad _) rfl qkl_859 qk_860 qk_861 qk_58 qk_862 qhd_X5_catAt ⟨Nat.le_of_ble_eq_true rfl, Nat.le_of_ble_eq_true rfl⟩ hl.1 rfl (Nat.le_of_ble_eq_true rfl) dL_catAt_4 ⟨Nat.le_of_ble_eq_true rfl, Nat.le_of_ble_eq_true rfl⟩ (fun hne H locs ce q9 hz hk hR hce hcv hcl => ?_) (fun hc0 H locs hz hk hR => ?_)
  · have hO := qX_on qOut_k hO hz hk
    rcases hcase with ⟨h1, h2, h3⟩ | ⟨h1, h2, h3⟩ | ⟨h1, h2, h3⟩ | ⟨h1, h2, h3⟩
    · exact absurd h1 hne
    · have hcl2 : s.vm.findClass "java/util/NoSuchElementException" = some ce.cls := by rw [h2] at hcl; exact hcl
      refine vx_catch (own := RL) (name := "java/util/NoSuchElementException") (E := "java/util/NoSuchElementException") hown [] ⟨0, 9, 12, 48⟩ [] hT (fun z hz => by cases hz) (by decide) (by decide) (hts _ qkl_753) (va_Nw.use (q_kp_tab (List.mem_filter.mp qkc_48).2) (hC.2.2.2.2.2.2.2.2.2.2.2.2 _ qkc_48)) hce hcv hcl2 ?_
      refine lv_astore_n (lv' := [(3, .ref q9), (0, .ref (ad 228)), (1, .int a1), (2, .ref o)]) hx hb dL_catAt_12 rfl hl (by decide) rfl (fun ls hl => ?_)
      refine lv_iconst (v := 1) hx hb dL_catAt_13 (by decide) ?_
      exact q_endL hC hR.1 (qS_do hR) hO ⟨f0, rfl, fun h => absurd (h3.symm.trans h) (by decide)⟩ rfl hr h3.symm (Nat.le_of_ble_eq_true rfl) (Nat.le_of_ble_eq_true rfl) dL_catAt_14
    · exact absurd h2 (by rw [show ([4] : List Nat).getD 1 0 = 0 from rfl]; exact h1)
    · exact absurd h2 (by rw [show ([4] : List Nat).getD 2 0 = 0 from rfl]; exact h1)
  · have hO := qX_on qOut_k hO hz hk
    have hk0 : kF = 0 ∧ rF = r0 := by
      rcases hcase with ⟨h1, h2, h3⟩ | ⟨h1, h2, h3⟩ | ⟨h1, h2, h3⟩ | ⟨h1, h2, h3⟩
      · exact ⟨h2, h3⟩
      · exact absurd hc0 h1
      · exact absurd hc0 h1
      · exact absurd hc0 h1
    obtain ⟨hk0, rfl⟩ := hk0
    refine lv_i2l hx hb dL_catAt_7 rfl ?_
    refine q_outL hC hR hO dL_catAt_8 (fun H locs hP hS hO => ?_)
    refine lv_goto (tgt := 15) hx hb dL_catAt_9 (by decide) ?_
    refine lv_iconst (v := 0) hx hb dL_catAt_15 (by decide) ?_
    exact q_endL hC hP hS hO ⟨_, rfl, fun _ => rfl⟩ rfl hr hk0.symm (Nat.le_of_ble_eq_true rfl) (Nat.le_of_ble_eq_true rfl) dL_catAt_16
def fL_onFloor (w : qMem) (a1 : Int32) (a2 : Int32) : Option (Int32 × Int32 × qMem) := qlh [1] (0 : Int32) (fX5_onFloor w a1 a2)
theorem qhd_L_onFloor : yL_onFloor.cls ≠ "java/lang/invoke/MethodHandle" ∧ yL_onFloor.cls ≠ "java/lang/invoke/VarHandle" ∧ (parseMethodDescriptor yL_onFloor.desc).map (fun d => d.parameters.length) = some 4 := ⟨by decide +kernel, by decide +kernel, by decide +kernel⟩
set_option maxHeartbeats 4000000 in
set_option maxRecDepth 100000 in
theorem mL_onFloor {l : Launch} {D : va_G} {G : Nat → ClassId} {ad : Nat → Nat} (hJ : qInj ad) (hst : l.stackTraces = false) {w : qMem} {a1 : Int32} {a2 : Int32} {kF : Int32} {rF : Int32} {wF : qMem} {o : Nat} {cA : ClassId} {f0 : Nat → Int64} (hf : fL_onFloor w a1 a2 = some (kF, rF, wF)) : qHL l D G ad yL_onFloor cL_onFloor 5 [(0, 10, 13, 13)] 7 1 6 [.ref (ad 228), .int a1, .int a2, .ref o] w o cA .long (1, .inr (.inl f0)) kF (qPL kF rF.toInt64) wF := by
  obtain ⟨cE, r0, h0, hcase⟩ := qlh_s hf
  refine q_startL rfl (by decide +kernel) hJ (Nat.le_of_ble_eq_true rfl) ?_
  intro p e s m args below meth c0 ls hC hr hT hO0 hR hl
  have hx := hC.1
  have hb := hC.2.1
  have hts := hC.2.2.2.2.1
  have hown := hC.2.2.2.1
  have hl : lv_has ls 5 [(0, .ref (ad 228)), (1, .int a1), (2, .int a2), (3, .ref o)] := hl
  have hO : qOut o cA .long (1, .inr (.inl f0)) (qAdr ad s.heap.size) s s.heap := hO0
  refine lv_aload_n hx hb dL_onFloor_0 rfl (lv_at hl 3 rfl) ?_
  refine lv_iconst (v := 0) hx hb dL_onFloor_1 (by decide) ?_
  refine lv_aload_n hx hb dL_onFloor_2 rfl (lv_at hl 0 rfl) ?_
  refine lv_iload_n hx hb dL_onFloor_3 rfl (lv_at hl 1 rfl) ?_
  refine lv_iload_n hx hb dL_onFloor_4 rfl (lv_at hl 2 rfl) ?_
  refine qx_ki (As := [.int a1, .int a2]) (rest := [.int 0, .ref o]) hC hR (mX5_onFloor hJ hst h0) (by decide) (qsh_228 G ad _) rfl qkl_866 qk_867 qk_868 qk_58 qk_869 qhd_X5_onFloor ⟨Nat.le_of_ble_eq_true rfl, Nat.le_of_ble_eq_true rfl⟩ hl.1 rfl (Nat.le_of_ble_eq_true rfl) dL_onFloor_5 ⟨Nat.le_of_ble_eq_true rfl, Nat.le_of_ble_eq_true rfl⟩ (fun hne H locs ce q9 hz hk hR hce hcv hcl => ?_) (fun hc0 H locs hz hk hR => ?_)
  · have hO := qX_on qOut_k hO hz hk
    rcases hcase with ⟨h1, h2, h3⟩ | ⟨h1, h2, h3⟩ | ⟨h1, h2, h3⟩ | ⟨h1, h2, h3⟩
    · exact absurd h1 hne
    · have hcl2 : s.vm.findClass "java/lang/IllegalArgumentException" = some ce.cls := by rw [h2] at hcl; exact hcl
      refine vx_catch (own := RL) (name := "java/lang/IllegalArgumentException") (E := "java/lang/IllegalArgumentException") hown [] ⟨0, 10, 13, 13⟩ [] hT (fun z hz => by cases hz) (by decide) (by decide) (hts _ qkl_545) (va_Nw.use (q_kp_tab (List.mem_filter.mp qkc_13).2) (hC.2.2.2.2.2.2.2.2.2.2.2.2 _ qkc_13)) hce hcv hcl2 ?_
      refine lv_astore (lv' := [(4, .ref q9), (0, .ref (ad 228)), (1, .int a1), (2, .int a2), (3, .ref o)]) hx hb dL_onFloor_13 hl (by decide) rfl (fun ls hl => ?_)
      refine lv_iconst (v := 1) hx hb dL_onFloor_15 (by decide) ?_
      exact q_endL hC hR.1 (qS_do hR) hO ⟨f0, rfl, fun h => absurd (h3.symm.trans h) (by decide)⟩ rfl hr h3.symm (Nat.le_of_ble_eq_true rfl) (Nat.le_of_ble_eq_true rfl) dL_onFloor_16
    · exact absurd h2 (by rw [show ([1] : List Nat).getD 1 0 = 0 from rfl]; exact h1)
    · exact absurd h2 (by rw [show ([1] : List Nat).getD 2 0 = 0 from rfl]; exact h1)
  · have hO := qX_on qOut_k hO hz hk
    have hk0 : kF = 0 ∧ rF = r0 := by
      rcases hcase with ⟨h1, h2, h3⟩ | ⟨h1, h2, h3⟩ | ⟨h1, h2, h3⟩ | ⟨h1, h2, h3⟩
      · exact ⟨h2, h3⟩
      · exact absurd hc0 h1
      · exact absurd hc0 h1
      · exact absurd hc0 h1
    obtain ⟨hk0, rfl⟩ := hk0
    refine lv_i2l hx hb dL_onFloor_8 rfl ?_
    refine q_outL hC hR hO dL_onFloor_9 (fun H locs hP hS hO => ?_)
    refine lv_goto (tgt := 17) hx hb dL_onFloor_10 (by decide) ?_
    refine lv_iconst (v := 0) hx hb dL_onFloor_17 (by decide) ?_
    exact q_endL hC hP hS hO ⟨_, rfl, fun _ => rfl⟩ rfl hr hk0.symm (Nat.le_of_ble_eq_true rfl) (Nat.le_of_ble_eq_true rfl) dL_onFloor_18
def fL_line (w : qMem) (a1 : Int32) : Option (Int32 × Int32 × qMem) := qlh [3] (0 : Int32) (fX5_line w a1)
theorem qhd_L_line : yL_line.cls ≠ "java/lang/invoke/MethodHandle" ∧ yL_line.cls ≠ "java/lang/invoke/VarHandle" ∧ (parseMethodDescriptor yL_line.desc).map (fun d => d.parameters.length) = some 3 := ⟨by decide +kernel, by decide +kernel, by decide +kernel⟩
set_option maxHeartbeats 4000000 in
set_option maxRecDepth 100000 in
theorem mL_line {l : Launch} {D : va_G} {G : Nat → ClassId} {ad : Nat → Nat} (hJ : qInj ad) (hst : l.stackTraces = false) {w : qMem} {a1 : Int32} {kF : Int32} {rF : Int32} {wF : qMem} {o : Nat} {cA : ClassId} {f0 : Nat → Int64} (hf : fL_line w a1 = some (kF, rF, wF)) : qHL l D G ad yL_line cL_line 4 [(0, 9, 12, 27)] 8 1 6 [.ref (ad 228), .int a1, .ref o] w o cA .long (1, .inr (.inl f0)) kF (qPL kF rF.toInt64) wF := by
  obtain ⟨cE, r0, h0, hcase⟩ := qlh_s hf
  refine q_startL rfl (by decide +kernel) hJ (Nat.le_of_ble_eq_true rfl) ?_
  intro p e s m args below meth c0 ls hC hr hT hO0 hR hl
  have hx := hC.1
  have hb := hC.2.1
  have hts := hC.2.2.2.2.1
  have hown := hC.2.2.2.1
  have hl : lv_has ls 4 [(0, .ref (ad 228)), (1, .int a1), (2, .ref o)] := hl
  have hO : qOut o cA .long (1, .inr (.inl f0)) (qAdr ad s.heap.size) s s.heap := hO0
  refine lv_aload_n hx hb dL_line_0 rfl (lv_at hl 2 rfl) ?_
  refine lv_iconst (v := 0) hx hb dL_line_1 (by decide) ?_
  refine lv_aload_n hx hb dL_line_2 rfl (lv_at hl 0 rfl) ?_
  refine lv_iload_n hx hb dL_line_3 rfl (lv_at hl 1 rfl) ?_
  refine qx_ki (As := [.int a1]) (rest := [.int 0, .ref o]) hC hR (mX5_line hJ hst h0) (by decide) (qsh_228 G ad _) rfl qkl_874 qk_875 qk_876 qk_58 qk_877 qhd_X5_line ⟨Nat.le_of_ble_eq_true rfl, Nat.le_of_ble_eq_true rfl⟩ hl.1 rfl (Nat.le_of_ble_eq_true rfl) dL_line_4 ⟨Nat.le_of_ble_eq_true rfl, Nat.le_of_ble_eq_true rfl⟩ (fun hne H locs ce q9 hz hk hR hce hcv hcl => ?_) (fun hc0 H locs hz hk hR => ?_)
  · have hO := qX_on qOut_k hO hz hk
    rcases hcase with ⟨h1, h2, h3⟩ | ⟨h1, h2, h3⟩ | ⟨h1, h2, h3⟩ | ⟨h1, h2, h3⟩
    · exact absurd h1 hne
    · have hcl2 : s.vm.findClass "java/lang/IndexOutOfBoundsException" = some ce.cls := by rw [h2] at hcl; exact hcl
      refine vx_catch (own := RL) (name := "java/lang/IndexOutOfBoundsException") (E := "java/lang/IndexOutOfBoundsException") hown [] ⟨0, 9, 12, 27⟩ [] hT (fun z hz => by cases hz) (by decide) (by decide) (hts _ qkl_660) (va_Nw.use (q_kp_tab (List.mem_filter.mp qkc_27).2) (hC.2.2.2.2.2.2.2.2.2.2.2.2 _ qkc_27)) hce hcv hcl2 ?_
      refine lv_astore_n (lv' := [(3, .ref q9), (0, .ref (ad 228)), (1, .int a1), (2, .ref o)]) hx hb dL_line_12 rfl hl (by decide) rfl (fun ls hl => ?_)
      refine lv_iconst (v := 1) hx hb dL_line_13 (by decide) ?_
      exact q_endL hC hR.1 (qS_do hR) hO ⟨f0, rfl, fun h => absurd (h3.symm.trans h) (by decide)⟩ rfl hr h3.symm (Nat.le_of_ble_eq_true rfl) (Nat.le_of_ble_eq_true rfl) dL_line_14
    · exact absurd h2 (by rw [show ([3] : List Nat).getD 1 0 = 0 from rfl]; exact h1)
    · exact absurd h2 (by rw [show ([3] : List Nat).getD 2 0 = 0 from rfl]; exact h1)
  · have hO := qX_on qOut_k hO hz hk
    have hk0 : kF = 0 ∧ rF = r0 := by
      rcases hcase with ⟨h1, h2, h3⟩ | ⟨h1, h2, h3⟩ | ⟨h1, h2, h3⟩ | ⟨h1, h2, h3⟩
      · exact ⟨h2, h3⟩
      · exact absurd hc0 h1
      · exact absurd hc0 h1
      · exact absurd hc0 h1
    obtain ⟨hk0, rfl⟩ := hk0
    refine lv_i2l hx hb dL_line_7 rfl ?_
    refine q_outL hC hR hO dL_line_8 (fun H locs hP hS hO => ?_)
    refine lv_goto (tgt := 15) hx hb dL_line_9 (by decide) ?_
    refine lv_iconst (v := 0) hx hb dL_line_15 (by decide) ?_
    exact q_endL hC hP hS hO ⟨_, rfl, fun _ => rfl⟩ rfl hr hk0.symm (Nat.le_of_ble_eq_true rfl) (Nat.le_of_ble_eq_true rfl) dL_line_16
def fL_character (w : qMem) (a1 : Int32) : Option (Int32 × Int32 × qMem) := qlh [3] (0 : Int32) (fX5_character w a1)
theorem qhd_L_character : yL_character.cls ≠ "java/lang/invoke/MethodHandle" ∧ yL_character.cls ≠ "java/lang/invoke/VarHandle" ∧ (parseMethodDescriptor yL_character.desc).map (fun d => d.parameters.length) = some 3 := ⟨by decide +kernel, by decide +kernel, by decide +kernel⟩
set_option maxHeartbeats 4000000 in
set_option maxRecDepth 100000 in
theorem mL_character {l : Launch} {D : va_G} {G : Nat → ClassId} {ad : Nat → Nat} (hJ : qInj ad) (hst : l.stackTraces = false) {w : qMem} {a1 : Int32} {kF : Int32} {rF : Int32} {wF : qMem} {o : Nat} {cA : ClassId} {f0 : Nat → Int64} (hf : fL_character w a1 = some (kF, rF, wF)) : qHL l D G ad yL_character cL_character 4 [(0, 9, 12, 27)] 7 1 6 [.ref (ad 228), .int a1, .ref o] w o cA .long (1, .inr (.inl f0)) kF (qPL kF rF.toInt64) wF := by
  obtain ⟨cE, r0, h0, hcase⟩ := qlh_s hf
  refine q_startL rfl (by decide +kernel) hJ (Nat.le_of_ble_eq_true rfl) ?_
  intro p e s m args below meth c0 ls hC hr hT hO0 hR hl
  have hx := hC.1
  have hb := hC.2.1
  have hts := hC.2.2.2.2.1
  have hown := hC.2.2.2.1
  have hl : lv_has ls 4 [(0, .ref (ad 228)), (1, .int a1), (2, .ref o)] := hl
  have hO : qOut o cA .long (1, .inr (.inl f0)) (qAdr ad s.heap.size) s s.heap := hO0
  refine lv_aload_n hx hb dL_character_0 rfl (lv_at hl 2 rfl) ?_
  refine lv_iconst (v := 0) hx hb dL_character_1 (by decide) ?_
  refine lv_aload_n hx hb dL_character_2 rfl (lv_at hl 0 rfl) ?_
  refine lv_iload_n hx hb dL_character_3 rfl (lv_at hl 1 rfl) ?_
  refine qx_ki (As := [.int a1]) (rest := [.int 0, .ref o]) hC hR (mX5_character hJ hst h0) (by decide) (qsh_228 G ad _) rfl qkl_885 qk_886 qk_887 qk_58 qk_888 qhd_X5_character ⟨Nat.le_of_ble_eq_true rfl, Nat.le_of_ble_eq_true rfl⟩ hl.1 rfl (Nat.le_of_ble_eq_true rfl) dL_character_4 ⟨Nat.le_of_ble_eq_true rfl, Nat.le_of_ble_eq_true rfl⟩ (fun hne H locs ce q9 hz hk hR hce hcv hcl => ?_) (fun hc0 H locs hz hk hR => ?_)
  · have hO := qX_on qOut_k hO hz hk
    rcases hcase with ⟨h1, h2, h3⟩ | ⟨h1, h2, h3⟩ | ⟨h1, h2, h3⟩ | ⟨h1, h2, h3⟩
    · exact absurd h1 hne
    · have hcl2 : s.vm.findClass "java/lang/IndexOutOfBoundsException" = some ce.cls := by rw [h2] at hcl; exact hcl
      refine vx_catch (own := RL) (name := "java/lang/IndexOutOfBoundsException") (E := "java/lang/IndexOutOfBoundsException") hown [] ⟨0, 9, 12, 27⟩ [] hT (fun z hz => by cases hz) (by decide) (by decide) (hts _ qkl_660) (va_Nw.use (q_kp_tab (List.mem_filter.mp qkc_27).2) (hC.2.2.2.2.2.2.2.2.2.2.2.2 _ qkc_27)) hce hcv hcl2 ?_
      refine lv_astore_n (lv' := [(3, .ref q9), (0, .ref (ad 228)), (1, .int a1), (2, .ref o)]) hx hb dL_character_12 rfl hl (by decide) rfl (fun ls hl => ?_)
      refine lv_iconst (v := 1) hx hb dL_character_13 (by decide) ?_
      exact q_endL hC hR.1 (qS_do hR) hO ⟨f0, rfl, fun h => absurd (h3.symm.trans h) (by decide)⟩ rfl hr h3.symm (Nat.le_of_ble_eq_true rfl) (Nat.le_of_ble_eq_true rfl) dL_character_14
    · exact absurd h2 (by rw [show ([3] : List Nat).getD 1 0 = 0 from rfl]; exact h1)
    · exact absurd h2 (by rw [show ([3] : List Nat).getD 2 0 = 0 from rfl]; exact h1)
  · have hO := qX_on qOut_k hO hz hk
    have hk0 : kF = 0 ∧ rF = r0 := by
      rcases hcase with ⟨h1, h2, h3⟩ | ⟨h1, h2, h3⟩ | ⟨h1, h2, h3⟩ | ⟨h1, h2, h3⟩
      · exact ⟨h2, h3⟩
      · exact absurd hc0 h1
      · exact absurd hc0 h1
      · exact absurd hc0 h1
    obtain ⟨hk0, rfl⟩ := hk0
    refine lv_i2l hx hb dL_character_7 rfl ?_
    refine q_outL hC hR hO dL_character_8 (fun H locs hP hS hO => ?_)
    refine lv_goto (tgt := 15) hx hb dL_character_9 (by decide) ?_
    refine lv_iconst (v := 0) hx hb dL_character_15 (by decide) ?_
    exact q_endL hC hP hS hO ⟨_, rfl, fun _ => rfl⟩ rfl hr hk0.symm (Nat.le_of_ble_eq_true rfl) (Nat.le_of_ble_eq_true rfl) dL_character_16
def fL_append (w : qMem) (a1 : Int32) : Option (Int32 × Int32 × qMem) := qlh [5] (0 : Int32) (fX5_append w a1)
theorem qhd_L_append : yL_append.cls ≠ "java/lang/invoke/MethodHandle" ∧ yL_append.cls ≠ "java/lang/invoke/VarHandle" ∧ (parseMethodDescriptor yL_append.desc).map (fun d => d.parameters.length) = some 3 := ⟨by decide +kernel, by decide +kernel, by decide +kernel⟩
set_option maxHeartbeats 4000000 in
set_option maxRecDepth 100000 in
theorem mL_append {l : Launch} {D : va_G} {G : Nat → ClassId} {ad : Nat → Nat} (hJ : qInj ad) (hst : l.stackTraces = false) {w : qMem} {a1 : Int32} {kF : Int32} {rF : Int32} {wF : qMem} {o : Nat} {cA : ClassId} {f0 : Nat → Int64} (hf : fL_append w a1 = some (kF, rF, wF)) : qHL l D G ad yL_append cL_append 4 [(0, 9, 12, 94)] 7 1 6 [.ref (ad 228), .int a1, .ref o] w o cA .long (1, .inr (.inl f0)) kF (qPL kF rF.toInt64) wF := by
  obtain ⟨cE, r0, h0, hcase⟩ := qlh_s hf
  refine q_startL rfl (by decide +kernel) hJ (Nat.le_of_ble_eq_true rfl) ?_
  intro p e s m args below meth c0 ls hC hr hT hO0 hR hl
  have hx := hC.1
  have hb := hC.2.1
  have hts := hC.2.2.2.2.1
  have hown := hC.2.2.2.1
  have hl : lv_has ls 4 [(0, .ref (ad 228)), (1, .int a1), (2, .ref o)] := hl
  have hO : qOut o cA .long (1, .inr (.inl f0)) (qAdr ad s.heap.size) s s.heap := hO0
  refine lv_aload_n hx hb dL_append_0 rfl (lv_at hl 2 rfl) ?_
  refine lv_iconst (v := 0) hx hb dL_append_1 (by decide) ?_
  refine lv_aload_n hx hb dL_append_2 rfl (lv_at hl 0 rfl) ?_
  refine lv_iload_n hx hb dL_append_3 rfl (lv_at hl 1 rfl) ?_
  refine qx_ki (As := [.int a1]) (rest := [.int 0, .ref o]) hC hR (mX5_append hJ hst h0) (by decide) (qsh_228 G ad _) rfl qkl_898 qk_899 qk_900 qk_58 qk_901 qhd_X5_append ⟨Nat.le_of_ble_eq_true rfl, Nat.le_of_ble_eq_true rfl⟩ hl.1 rfl (Nat.le_of_ble_eq_true rfl) dL_append_4 ⟨Nat.le_of_ble_eq_true rfl, Nat.le_of_ble_eq_true rfl⟩ (fun hne H locs ce q9 hz hk hR hce hcv hcl => ?_) (fun hc0 H locs hz hk hR => ?_)
  · have hO := qX_on qOut_k hO hz hk
    rcases hcase with ⟨h1, h2, h3⟩ | ⟨h1, h2, h3⟩ | ⟨h1, h2, h3⟩ | ⟨h1, h2, h3⟩
    · exact absurd h1 hne
    · have hcl2 : s.vm.findClass "java/lang/IllegalStateException" = some ce.cls := by rw [h2] at hcl; exact hcl
      refine vx_catch (own := RL) (name := "java/lang/IllegalStateException") (E := "java/lang/IllegalStateException") hown [] ⟨0, 9, 12, 94⟩ [] hT (fun z hz => by cases hz) (by decide) (by decide) (hts _ qkl_897) (va_Nw.use (q_kp_tab (List.mem_filter.mp qkc_94).2) (hC.2.2.2.2.2.2.2.2.2.2.2.2 _ qkc_94)) hce hcv hcl2 ?_
      refine lv_astore_n (lv' := [(3, .ref q9), (0, .ref (ad 228)), (1, .int a1), (2, .ref o)]) hx hb dL_append_12 rfl hl (by decide) rfl (fun ls hl => ?_)
      refine lv_iconst (v := 1) hx hb dL_append_13 (by decide) ?_
      exact q_endL hC hR.1 (qS_do hR) hO ⟨f0, rfl, fun h => absurd (h3.symm.trans h) (by decide)⟩ rfl hr h3.symm (Nat.le_of_ble_eq_true rfl) (Nat.le_of_ble_eq_true rfl) dL_append_14
    · exact absurd h2 (by rw [show ([5] : List Nat).getD 1 0 = 0 from rfl]; exact h1)
    · exact absurd h2 (by rw [show ([5] : List Nat).getD 2 0 = 0 from rfl]; exact h1)
  · have hO := qX_on qOut_k hO hz hk
    have hk0 : kF = 0 ∧ rF = r0 := by
      rcases hcase with ⟨h1, h2, h3⟩ | ⟨h1, h2, h3⟩ | ⟨h1, h2, h3⟩ | ⟨h1, h2, h3⟩
      · exact ⟨h2, h3⟩
      · exact absurd hc0 h1
      · exact absurd hc0 h1
      · exact absurd hc0 h1
    obtain ⟨hk0, rfl⟩ := hk0
    refine lv_i2l hx hb dL_append_7 rfl ?_
    refine q_outL hC hR hO dL_append_8 (fun H locs hP hS hO => ?_)
    refine lv_goto (tgt := 15) hx hb dL_append_9 (by decide) ?_
    refine lv_iconst (v := 0) hx hb dL_append_15 (by decide) ?_
    exact q_endL hC hP hS hO ⟨_, rfl, fun _ => rfl⟩ rfl hr hk0.symm (Nat.le_of_ble_eq_true rfl) (Nat.le_of_ble_eq_true rfl) dL_append_16
def fL_run (w : qMem)  : Option (Int32 × Int32 × qMem) := qlh [1, 2] (0 : Int32) (fX5_run w)
theorem qhd_L_run : yL_run.cls ≠ "java/lang/invoke/MethodHandle" ∧ yL_run.cls ≠ "java/lang/invoke/VarHandle" ∧ (parseMethodDescriptor yL_run.desc).map (fun d => d.parameters.length) = some 2 := ⟨by decide +kernel, by decide +kernel, by decide +kernel⟩
set_option maxHeartbeats 4000000 in
set_option maxRecDepth 100000 in
theorem mL_run {l : Launch} {D : va_G} {G : Nat → ClassId} {ad : Nat → Nat} (hJ : qInj ad) (hst : l.stackTraces = false) {w : qMem}  {kF : Int32} {rF : Int32} {wF : qMem} {o : Nat} {cA : ClassId} {f0 : Nat → Int64} (hf : fL_run w = some (kF, rF, wF)) : qHL l D G ad yL_run cL_run 3 [(0, 8, 11, 13), (0, 8, 14, 15)] 10 1 6 [.ref (ad 228), .ref o] w o cA .long (1, .inr (.inl f0)) kF (qPL kF rF.toInt64) wF := by
  obtain ⟨cE, r0, h0, hcase⟩ := qlh_s hf
  refine q_startL rfl (by decide +kernel) hJ (Nat.le_of_ble_eq_true rfl) ?_
  intro p e s m args below meth c0 ls hC hr hT hO0 hR hl
  have hx := hC.1
  have hb := hC.2.1
  have hts := hC.2.2.2.2.1
  have hown := hC.2.2.2.1
  have hl : lv_has ls 3 [(0, .ref (ad 228)), (1, .ref o)] := hl
  have hO : qOut o cA .long (1, .inr (.inl f0)) (qAdr ad s.heap.size) s s.heap := hO0
  refine lv_aload_n hx hb dL_run_0 rfl (lv_at hl 1 rfl) ?_
  refine lv_iconst (v := 0) hx hb dL_run_1 (by decide) ?_
  refine lv_aload_n hx hb dL_run_2 rfl (lv_at hl 0 rfl) ?_
  refine qx_ki (As := []) (rest := [.int 0, .ref o]) hC hR (mX5_run hJ hst h0) (by decide) (qsh_228 G ad _) rfl qkl_925 qk_926 qk_927 qk_58 qk_928 qhd_X5_run ⟨Nat.le_of_ble_eq_true rfl, Nat.le_of_ble_eq_true rfl⟩ hl.1 rfl (Nat.le_of_ble_eq_true rfl) dL_run_3 ⟨Nat.le_of_ble_eq_true rfl, Nat.le_of_ble_eq_true rfl⟩ (fun hne H locs ce q9 hz hk hR hce hcv hcl => ?_) (fun hc0 H locs hz hk hR => ?_)
  · have hO := qX_on qOut_k hO hz hk
    rcases hcase with ⟨h1, h2, h3⟩ | ⟨h1, h2, h3⟩ | ⟨h1, h2, h3⟩ | ⟨h1, h2, h3⟩
    · exact absurd h1 hne
    · have hcl2 : s.vm.findClass "java/lang/IllegalArgumentException" = some ce.cls := by rw [h2] at hcl; exact hcl
      refine vx_catch (own := RL) (name := "java/lang/IllegalArgumentException") (E := "java/lang/IllegalArgumentException") hown [] ⟨0, 8, 11, 13⟩ [⟨0, 8, 14, 15⟩] hT (fun z hz => by cases hz) (by decide) (by decide) (hts _ qkl_545) (va_Nw.use (q_kp_tab (List.mem_filter.mp qkc_13).2) (hC.2.2.2.2.2.2.2.2.2.2.2.2 _ qkc_13)) hce hcv hcl2 ?_
      refine lv_astore_n (lv' := [(2, .ref q9), (0, .ref (ad 228)), (1, .ref o)]) hx hb dL_run_11 rfl hl (by decide) rfl (fun ls hl => ?_)
      refine lv_iconst (v := 1) hx hb dL_run_12 (by decide) ?_
      exact q_endL hC hR.1 (qS_do hR) hO ⟨f0, rfl, fun h => absurd (h3.symm.trans h) (by decide)⟩ rfl hr h3.symm (Nat.le_of_ble_eq_true rfl) (Nat.le_of_ble_eq_true rfl) dL_run_13
    · have hcl2 : s.vm.findClass "java/lang/UnsupportedOperationException" = some ce.cls := by rw [h2] at hcl; exact hcl
      refine vx_catch (own := RL) (name := "java/lang/UnsupportedOperationException") (E := "java/lang/UnsupportedOperationException") hown [⟨0, 8, 11, 13⟩] ⟨0, 8, 14, 15⟩ [] hT (fun z hz => by
        simp only [List.mem_cons, List.mem_nil_iff, or_false] at hz
        rcases hz with rfl
        · exact Or.inr ⟨by decide, "java/lang/IllegalArgumentException", hts _ qkl_545, hO0.1.1⟩) (by decide) (by decide) (hts _ qkl_546) (va_Nw.use (q_kp_tab (List.mem_filter.mp qkc_15).2) (hC.2.2.2.2.2.2.2.2.2.2.2.2 _ qkc_15)) hce hcv hcl2 ?_
      refine lv_astore_n (lv' := [(2, .ref q9), (0, .ref (ad 228)), (1, .ref o)]) hx hb dL_run_14 rfl hl (by decide) rfl (fun ls hl => ?_)
      refine lv_iconst (v := 2) hx hb dL_run_15 (by decide) ?_
      exact q_endL hC hR.1 (qS_do hR) hO ⟨f0, rfl, fun h => absurd (h3.symm.trans h) (by decide)⟩ rfl hr h3.symm (Nat.le_of_ble_eq_true rfl) (Nat.le_of_ble_eq_true rfl) dL_run_16
    · exact absurd h2 (by rw [show ([1, 2] : List Nat).getD 2 0 = 0 from rfl]; exact h1)
  · have hO := qX_on qOut_k hO hz hk
    have hk0 : kF = 0 ∧ rF = r0 := by
      rcases hcase with ⟨h1, h2, h3⟩ | ⟨h1, h2, h3⟩ | ⟨h1, h2, h3⟩ | ⟨h1, h2, h3⟩
      · exact ⟨h2, h3⟩
      · exact absurd hc0 h1
      · exact absurd hc0 h1
      · exact absurd hc0 h1
    obtain ⟨hk0, rfl⟩ := hk0
    refine lv_i2l hx hb dL_run_6 rfl ?_
    refine q_outL hC hR hO dL_run_7 (fun H locs hP hS hO => ?_)
    refine lv_goto (tgt := 17) hx hb dL_run_8 (by decide) ?_
    refine lv_iconst (v := 0) hx hb dL_run_17 (by decide) ?_
    exact q_endL hC hP hS hO ⟨_, rfl, fun _ => rfl⟩ rfl hr hk0.symm (Nat.le_of_ble_eq_true rfl) (Nat.le_of_ble_eq_true rfl) dL_run_18
def fL_refusal (w : qMem) (a1 : Int32) : Option (Int32 × Int32 × qMem) := qlh [4] (0 : Int32) (fX5_refusal w a1)
theorem qhd_L_refusal : yL_refusal.cls ≠ "java/lang/invoke/MethodHandle" ∧ yL_refusal.cls ≠ "java/lang/invoke/VarHandle" ∧ (parseMethodDescriptor yL_refusal.desc).map (fun d => d.parameters.length) = some 3 := ⟨by decide +kernel, by decide +kernel, by decide +kernel⟩
set_option maxHeartbeats 4000000 in
set_option maxRecDepth 100000 in
theorem mL_refusal {l : Launch} {D : va_G} {G : Nat → ClassId} {ad : Nat → Nat} (hJ : qInj ad) (hst : l.stackTraces = false) {w : qMem} {a1 : Int32} {kF : Int32} {rF : Int32} {wF : qMem} {o : Nat} {cA : ClassId} {f0 : Nat → Int64} (hf : fL_refusal w a1 = some (kF, rF, wF)) : qHL l D G ad yL_refusal cL_refusal 4 [(0, 9, 12, 48)] 7 1 6 [.ref (ad 228), .int a1, .ref o] w o cA .long (1, .inr (.inl f0)) kF (qPL kF rF.toInt64) wF := by
  obtain ⟨cE, r0, h0, hcase⟩ := qlh_s hf
  refine q_startL rfl (by decide +kernel) hJ (Nat.le_of_ble_eq_true rfl) ?_
  intro p e s m args below meth c0 ls hC hr hT hO0 hR hl
  have hx := hC.1
  have hb := hC.2.1
  have hts := hC.2.2.2.2.1
  have hown := hC.2.2.2.1
  have hl : lv_has ls 4 [(0, .ref (ad 228)), (1, .int a1), (2, .ref o)] := hl
  have hO : qOut o cA .long (1, .inr (.inl f0)) (qAdr ad s.heap.size) s s.heap := hO0
  refine lv_aload_n hx hb dL_refusal_0 rfl (lv_at hl 2 rfl) ?_
  refine lv_iconst (v := 0) hx hb dL_refusal_1 (by decide) ?_
  refine lv_aload_n hx hb dL_refusal_2 rfl (lv_at hl 0 rfl) ?_
  refine lv_iload_n hx hb dL_refusal_3 rfl (lv_at hl 1 rfl) ?_
  refine qx_ki (As := [.int a1]) (rest := [.int 0, .ref o]) hC hR (mX5_refusal hJ hst h0) (by decide) (qsh_228 G ad _) rfl qkl_1044 qk_1045 qk_1046 qk_58 qk_1047 qhd_X5_refusal ⟨Nat.le_of_ble_eq_true rfl, Nat.le_of_ble_eq_true rfl⟩ hl.1 rfl (Nat.le_of_ble_eq_true rfl) dL_refusal_4 ⟨Nat.le_of_ble_eq_true rfl, Nat.le_of_ble_eq_true rfl⟩ (fun hne H locs ce q9 hz hk hR hce hcv hcl => ?_) (fun hc0 H locs hz hk hR => ?_)
  · have hO := qX_on qOut_k hO hz hk
    rcases hcase with ⟨h1, h2, h3⟩ | ⟨h1, h2, h3⟩ | ⟨h1, h2, h3⟩ | ⟨h1, h2, h3⟩
    · exact absurd h1 hne
    · have hcl2 : s.vm.findClass "java/util/NoSuchElementException" = some ce.cls := by rw [h2] at hcl; exact hcl
      refine vx_catch (own := RL) (name := "java/util/NoSuchElementException") (E := "java/util/NoSuchElementException") hown [] ⟨0, 9, 12, 48⟩ [] hT (fun z hz => by cases hz) (by decide) (by decide) (hts _ qkl_753) (va_Nw.use (q_kp_tab (List.mem_filter.mp qkc_48).2) (hC.2.2.2.2.2.2.2.2.2.2.2.2 _ qkc_48)) hce hcv hcl2 ?_
      refine lv_astore_n (lv' := [(3, .ref q9), (0, .ref (ad 228)), (1, .int a1), (2, .ref o)]) hx hb dL_refusal_12 rfl hl (by decide) rfl (fun ls hl => ?_)
      refine lv_iconst (v := 1) hx hb dL_refusal_13 (by decide) ?_
      exact q_endL hC hR.1 (qS_do hR) hO ⟨f0, rfl, fun h => absurd (h3.symm.trans h) (by decide)⟩ rfl hr h3.symm (Nat.le_of_ble_eq_true rfl) (Nat.le_of_ble_eq_true rfl) dL_refusal_14
    · exact absurd h2 (by rw [show ([4] : List Nat).getD 1 0 = 0 from rfl]; exact h1)
    · exact absurd h2 (by rw [show ([4] : List Nat).getD 2 0 = 0 from rfl]; exact h1)
  · have hO := qX_on qOut_k hO hz hk
    have hk0 : kF = 0 ∧ rF = r0 := by
      rcases hcase with ⟨h1, h2, h3⟩ | ⟨h1, h2, h3⟩ | ⟨h1, h2, h3⟩ | ⟨h1, h2, h3⟩
      · exact ⟨h2, h3⟩
      · exact absurd hc0 h1
      · exact absurd hc0 h1
      · exact absurd hc0 h1
    obtain ⟨hk0, rfl⟩ := hk0
    refine lv_i2l hx hb dL_refusal_7 rfl ?_
    refine q_outL hC hR hO dL_refusal_8 (fun H locs hP hS hO => ?_)
    refine lv_goto (tgt := 15) hx hb dL_refusal_9 (by decide) ?_
    refine lv_iconst (v := 0) hx hb dL_refusal_15 (by decide) ?_
    exact q_endL hC hP hS hO ⟨_, rfl, fun _ => rfl⟩ rfl hr hk0.symm (Nat.le_of_ble_eq_true rfl) (Nat.le_of_ble_eq_true rfl) dL_refusal_16
def fL_account (w : qMem) (a1 : Int32) : Option (Int32 × Int32 × qMem) := qlh [1] (0 : Int32) (fX5_account w a1)
theorem qhd_L_account : yL_account.cls ≠ "java/lang/invoke/MethodHandle" ∧ yL_account.cls ≠ "java/lang/invoke/VarHandle" ∧ (parseMethodDescriptor yL_account.desc).map (fun d => d.parameters.length) = some 3 := ⟨by decide +kernel, by decide +kernel, by decide +kernel⟩
set_option maxHeartbeats 4000000 in
set_option maxRecDepth 100000 in
theorem mL_account {l : Launch} {D : va_G} {G : Nat → ClassId} {ad : Nat → Nat} (hJ : qInj ad) (hst : l.stackTraces = false) {w : qMem} {a1 : Int32} {kF : Int32} {rF : Int32} {wF : qMem} {o : Nat} {cA : ClassId} {f0 : Nat → Int64} (hf : fL_account w a1 = some (kF, rF, wF)) : qHL l D G ad yL_account cL_account 4 [(0, 9, 12, 13)] 7 1 6 [.ref (ad 228), .int a1, .ref o] w o cA .long (1, .inr (.inl f0)) kF (qPL kF rF.toInt64) wF := by
  obtain ⟨cE, r0, h0, hcase⟩ := qlh_s hf
  refine q_startL rfl (by decide +kernel) hJ (Nat.le_of_ble_eq_true rfl) ?_
  intro p e s m args below meth c0 ls hC hr hT hO0 hR hl
  have hx := hC.1
  have hb := hC.2.1
  have hts := hC.2.2.2.2.1
  have hown := hC.2.2.2.1
  have hl : lv_has ls 4 [(0, .ref (ad 228)), (1, .int a1), (2, .ref o)] := hl
  have hO : qOut o cA .long (1, .inr (.inl f0)) (qAdr ad s.heap.size) s s.heap := hO0
  refine lv_aload_n hx hb dL_account_0 rfl (lv_at hl 2 rfl) ?_
  refine lv_iconst (v := 0) hx hb dL_account_1 (by decide) ?_
  refine lv_aload_n hx hb dL_account_2 rfl (lv_at hl 0 rfl) ?_
  refine lv_iload_n hx hb dL_account_3 rfl (lv_at hl 1 rfl) ?_
  refine qx_ki (As := [.int a1]) (rest := [.int 0, .ref o]) hC hR (mX5_account hJ hst h0) (by decide) (qsh_228 G ad _) rfl qkl_1052 qk_1053 qk_1054 qk_58 qk_1055 qhd_X5_account ⟨Nat.le_of_ble_eq_true rfl, Nat.le_of_ble_eq_true rfl⟩ hl.1 rfl (Nat.le_of_ble_eq_true rfl) dL_account_4 ⟨Nat.le_of_ble_eq_true rfl, Nat.le_of_ble_eq_true rfl⟩ (fun hne H locs ce q9 hz hk hR hce hcv hcl => ?_) (fun hc0 H locs hz hk hR => ?_)
  · have hO := qX_on qOut_k hO hz hk
    rcases hcase with ⟨h1, h2, h3⟩ | ⟨h1, h2, h3⟩ | ⟨h1, h2, h3⟩ | ⟨h1, h2, h3⟩
    · exact absurd h1 hne
    · have hcl2 : s.vm.findClass "java/lang/IllegalArgumentException" = some ce.cls := by rw [h2] at hcl; exact hcl
      refine vx_catch (own := RL) (name := "java/lang/IllegalArgumentException") (E := "java/lang/IllegalArgumentException") hown [] ⟨0, 9, 12, 13⟩ [] hT (fun z hz => by cases hz) (by decide) (by decide) (hts _ qkl_545) (va_Nw.use (q_kp_tab (List.mem_filter.mp qkc_13).2) (hC.2.2.2.2.2.2.2.2.2.2.2.2 _ qkc_13)) hce hcv hcl2 ?_
      refine lv_astore_n (lv' := [(3, .ref q9), (0, .ref (ad 228)), (1, .int a1), (2, .ref o)]) hx hb dL_account_12 rfl hl (by decide) rfl (fun ls hl => ?_)
      refine lv_iconst (v := 1) hx hb dL_account_13 (by decide) ?_
      exact q_endL hC hR.1 (qS_do hR) hO ⟨f0, rfl, fun h => absurd (h3.symm.trans h) (by decide)⟩ rfl hr h3.symm (Nat.le_of_ble_eq_true rfl) (Nat.le_of_ble_eq_true rfl) dL_account_14
    · exact absurd h2 (by rw [show ([1] : List Nat).getD 1 0 = 0 from rfl]; exact h1)
    · exact absurd h2 (by rw [show ([1] : List Nat).getD 2 0 = 0 from rfl]; exact h1)
  · have hO := qX_on qOut_k hO hz hk
    have hk0 : kF = 0 ∧ rF = r0 := by
      rcases hcase with ⟨h1, h2, h3⟩ | ⟨h1, h2, h3⟩ | ⟨h1, h2, h3⟩ | ⟨h1, h2, h3⟩
      · exact ⟨h2, h3⟩
      · exact absurd hc0 h1
      · exact absurd hc0 h1
      · exact absurd hc0 h1
    obtain ⟨hk0, rfl⟩ := hk0
    refine lv_i2l hx hb dL_account_7 rfl ?_
    refine q_outL hC hR hO dL_account_8 (fun H locs hP hS hO => ?_)
    refine lv_goto (tgt := 15) hx hb dL_account_9 (by decide) ?_
    refine lv_iconst (v := 0) hx hb dL_account_15 (by decide) ?_
    exact q_endL hC hP hS hO ⟨_, rfl, fun _ => rfl⟩ rfl hr hk0.symm (Nat.le_of_ble_eq_true rfl) (Nat.le_of_ble_eq_true rfl) dL_account_16
def fL_meanGrade (w : qMem)  : Option (Int32 × UInt64 × qMem) := qlh [6] (0 : UInt64) (fX5_meanGrade w)
theorem qhd_L_meanGrade : yL_meanGrade.cls ≠ "java/lang/invoke/MethodHandle" ∧ yL_meanGrade.cls ≠ "java/lang/invoke/VarHandle" ∧ (parseMethodDescriptor yL_meanGrade.desc).map (fun d => d.parameters.length) = some 2 := ⟨by decide +kernel, by decide +kernel, by decide +kernel⟩
set_option maxHeartbeats 4000000 in
set_option maxRecDepth 100000 in
theorem mL_meanGrade {l : Launch} {D : va_G} {G : Nat → ClassId} {ad : Nat → Nat} (hJ : qInj ad) (hst : l.stackTraces = false) {w : qMem}  {kF : Int32} {rF : UInt64} {wF : qMem} {o : Nat} {cA : ClassId} {f0 : Nat → UInt64} (hf : fL_meanGrade w = some (kF, rF, wF)) : qHL l D G ad yL_meanGrade cL_meanGrade 3 [(0, 7, 10, 110)] 7 1 6 [.ref (ad 228), .ref o] w o cA .double (1, .inr (.inr (.inr (.inl f0)))) kF (qPD kF rF) wF := by
  obtain ⟨cE, r0, h0, hcase⟩ := qlh_s hf
  refine q_startL rfl (by decide +kernel) hJ (Nat.le_of_ble_eq_true rfl) ?_
  intro p e s m args below meth c0 ls hC hr hT hO0 hR hl
  have hx := hC.1
  have hb := hC.2.1
  have hts := hC.2.2.2.2.1
  have hown := hC.2.2.2.1
  have hl : lv_has ls 3 [(0, .ref (ad 228)), (1, .ref o)] := hl
  have hO : qOut o cA .double (1, .inr (.inr (.inr (.inl f0)))) (qAdr ad s.heap.size) s s.heap := hO0
  refine lv_aload_n hx hb dL_meanGrade_0 rfl (lv_at hl 1 rfl) ?_
  refine lv_iconst (v := 0) hx hb dL_meanGrade_1 (by decide) ?_
  refine lv_aload_n hx hb dL_meanGrade_2 rfl (lv_at hl 0 rfl) ?_
  refine qx_kd (As := []) (rest := [.int 0, .ref o]) hC hR (mX5_meanGrade hJ hst h0) (by decide) (qsh_228 G ad _) rfl qkl_1079 qk_1080 qk_1081 qk_58 qk_1082 qhd_X5_meanGrade ⟨Nat.le_of_ble_eq_true rfl, Nat.le_of_ble_eq_true rfl⟩ hl.1 rfl (Nat.le_of_ble_eq_true rfl) dL_meanGrade_3 ⟨Nat.le_of_ble_eq_true rfl, Nat.le_of_ble_eq_true rfl⟩ (fun hne H locs ce q9 hz hk hR hce hcv hcl => ?_) (fun hc0 H locs hz hk hR => ?_)
  · have hO := qX_on qOut_k hO hz hk
    rcases hcase with ⟨h1, h2, h3⟩ | ⟨h1, h2, h3⟩ | ⟨h1, h2, h3⟩ | ⟨h1, h2, h3⟩
    · exact absurd h1 hne
    · have hcl2 : s.vm.findClass "java/lang/ArithmeticException" = some ce.cls := by rw [h2] at hcl; exact hcl
      refine vx_catch (own := RL) (name := "java/lang/ArithmeticException") (E := "java/lang/ArithmeticException") hown [] ⟨0, 7, 10, 110⟩ [] hT (fun z hz => by cases hz) (by decide) (by decide) (hts _ qkl_1065) (va_Nw.use (q_kp_tab (List.mem_filter.mp qkc_110).2) (hC.2.2.2.2.2.2.2.2.2.2.2.2 _ qkc_110)) hce hcv hcl2 ?_
      refine lv_astore_n (lv' := [(2, .ref q9), (0, .ref (ad 228)), (1, .ref o)]) hx hb dL_meanGrade_10 rfl hl (by decide) rfl (fun ls hl => ?_)
      refine lv_iconst (v := 1) hx hb dL_meanGrade_11 (by decide) ?_
      exact q_endL hC hR.1 (qS_do hR) hO ⟨f0, rfl, fun h => absurd (h3.symm.trans h) (by decide)⟩ rfl hr h3.symm (Nat.le_of_ble_eq_true rfl) (Nat.le_of_ble_eq_true rfl) dL_meanGrade_12
    · exact absurd h2 (by rw [show ([6] : List Nat).getD 1 0 = 0 from rfl]; exact h1)
    · exact absurd h2 (by rw [show ([6] : List Nat).getD 2 0 = 0 from rfl]; exact h1)
  · have hO := qX_on qOut_k hO hz hk
    have hk0 : kF = 0 ∧ rF = r0 := by
      rcases hcase with ⟨h1, h2, h3⟩ | ⟨h1, h2, h3⟩ | ⟨h1, h2, h3⟩ | ⟨h1, h2, h3⟩
      · exact ⟨h2, h3⟩
      · exact absurd hc0 h1
      · exact absurd hc0 h1
      · exact absurd hc0 h1
    obtain ⟨hk0, rfl⟩ := hk0
    refine q_outD hC hR hO dL_meanGrade_6 (fun H locs hP hS hO => ?_)
    refine lv_goto (tgt := 13) hx hb dL_meanGrade_7 (by decide) ?_
    refine lv_iconst (v := 0) hx hb dL_meanGrade_13 (by decide) ?_
    exact q_endL hC hP hS hO ⟨_, rfl, fun _ => rfl⟩ rfl hr hk0.symm (Nat.le_of_ble_eq_true rfl) (Nat.le_of_ble_eq_true rfl) dL_meanGrade_14
def fL_brokenShare (w : qMem)  : Option (Int32 × UInt32 × qMem) := qlh [6] (0 : UInt32) (fX5_brokenShare w)
theorem qhd_L_brokenShare : yL_brokenShare.cls ≠ "java/lang/invoke/MethodHandle" ∧ yL_brokenShare.cls ≠ "java/lang/invoke/VarHandle" ∧ (parseMethodDescriptor yL_brokenShare.desc).map (fun d => d.parameters.length) = some 2 := ⟨by decide +kernel, by decide +kernel, by decide +kernel⟩
set_option maxHeartbeats 4000000 in
set_option maxRecDepth 100000 in
theorem mL_brokenShare {l : Launch} {D : va_G} {G : Nat → ClassId} {ad : Nat → Nat} (hJ : qInj ad) (hst : l.stackTraces = false) {w : qMem}  {kF : Int32} {rF : UInt32} {wF : qMem} {o : Nat} {cA : ClassId} {f0 : Nat → UInt64} (hf : fL_brokenShare w = some (kF, rF, wF)) (hn : qn64 (FP.f2d rF) = true) : qHL l D G ad yL_brokenShare cL_brokenShare 3 [(0, 8, 11, 110)] 7 1 6 [.ref (ad 228), .ref o] w o cA .double (1, .inr (.inr (.inr (.inl f0)))) kF (qPD kF (FP.f2d rF)) wF := by
  obtain ⟨cE, r0, h0, hcase⟩ := qlh_s hf
  refine q_startL rfl (by decide +kernel) hJ (Nat.le_of_ble_eq_true rfl) ?_
  intro p e s m args below meth c0 ls hC hr hT hO0 hR hl
  have hx := hC.1
  have hb := hC.2.1
  have hts := hC.2.2.2.2.1
  have hown := hC.2.2.2.1
  have hl : lv_has ls 3 [(0, .ref (ad 228)), (1, .ref o)] := hl
  have hO : qOut o cA .double (1, .inr (.inr (.inr (.inl f0)))) (qAdr ad s.heap.size) s s.heap := hO0
  refine lv_aload_n hx hb dL_brokenShare_0 rfl (lv_at hl 1 rfl) ?_
  refine lv_iconst (v := 0) hx hb dL_brokenShare_1 (by decide) ?_
  refine lv_aload_n hx hb dL_brokenShare_2 rfl (lv_at hl 0 rfl) ?_
  refine qx_kf (As := []) (rest := [.int 0, .ref o]) hC hR (mX5_brokenShare hJ hst h0) (by decide) (qsh_228 G ad _) rfl qkl_1093 qk_1094 qk_1095 qk_58 qk_1096 qhd_X5_brokenShare ⟨Nat.le_of_ble_eq_true rfl, Nat.le_of_ble_eq_true rfl⟩ hl.1 rfl (Nat.le_of_ble_eq_true rfl) dL_brokenShare_3 ⟨Nat.le_of_ble_eq_true rfl, Nat.le_of_ble_eq_true rfl⟩ (fun hne H locs ce q9 hz hk hR hce hcv hcl => ?_) (fun hc0 H locs hz hk hR => ?_)
  · have hO := qX_on qOut_k hO hz hk
    rcases hcase with ⟨h1, h2, h3⟩ | ⟨h1, h2, h3⟩ | ⟨h1, h2, h3⟩ | ⟨h1, h2, h3⟩
    · exact absurd h1 hne
    · have hcl2 : s.vm.findClass "java/lang/ArithmeticException" = some ce.cls := by rw [h2] at hcl; exact hcl
      refine vx_catch (own := RL) (name := "java/lang/ArithmeticException") (E := "java/lang/ArithmeticException") hown [] ⟨0, 8, 11, 110⟩ [] hT (fun z hz => by cases hz) (by decide) (by decide) (hts _ qkl_1065) (va_Nw.use (q_kp_tab (List.mem_filter.mp qkc_110).2) (hC.2.2.2.2.2.2.2.2.2.2.2.2 _ qkc_110)) hce hcv hcl2 ?_
      refine lv_astore_n (lv' := [(2, .ref q9), (0, .ref (ad 228)), (1, .ref o)]) hx hb dL_brokenShare_11 rfl hl (by decide) rfl (fun ls hl => ?_)
      refine lv_iconst (v := 1) hx hb dL_brokenShare_12 (by decide) ?_
      exact q_endL hC hR.1 (qS_do hR) hO ⟨f0, rfl, fun h => absurd (h3.symm.trans h) (by decide)⟩ rfl hr h3.symm (Nat.le_of_ble_eq_true rfl) (Nat.le_of_ble_eq_true rfl) dL_brokenShare_13
    · exact absurd h2 (by rw [show ([6] : List Nat).getD 1 0 = 0 from rfl]; exact h1)
    · exact absurd h2 (by rw [show ([6] : List Nat).getD 2 0 = 0 from rfl]; exact h1)
  · have hO := qX_on qOut_k hO hz hk
    have hk0 : kF = 0 ∧ rF = r0 := by
      rcases hcase with ⟨h1, h2, h3⟩ | ⟨h1, h2, h3⟩ | ⟨h1, h2, h3⟩ | ⟨h1, h2, h3⟩
      · exact ⟨h2, h3⟩
      · exact absurd hc0 h1
      · exact absurd hc0 h1
      · exact absurd hc0 h1
    obtain ⟨hk0, rfl⟩ := hk0
    refine lv_f2d hx hb dL_brokenShare_6 (qn64_ok hn) ?_
    refine q_outD hC hR hO dL_brokenShare_7 (fun H locs hP hS hO => ?_)
    refine lv_goto (tgt := 14) hx hb dL_brokenShare_8 (by decide) ?_
    refine lv_iconst (v := 0) hx hb dL_brokenShare_14 (by decide) ?_
    exact q_endL hC hP hS hO ⟨_, rfl, fun _ => rfl⟩ rfl hr hk0.symm (Nat.le_of_ble_eq_true rfl) (Nat.le_of_ble_eq_true rfl) dL_brokenShare_15
def fL_undo (w : qMem)  : Option (Int32 × Int32 × qMem) := qlh [5] (0 : Int32) (fX5_undo w)
theorem qhd_L_undo : yL_undo.cls ≠ "java/lang/invoke/MethodHandle" ∧ yL_undo.cls ≠ "java/lang/invoke/VarHandle" ∧ (parseMethodDescriptor yL_undo.desc).map (fun d => d.parameters.length) = some 2 := ⟨by decide +kernel, by decide +kernel, by decide +kernel⟩
set_option maxHeartbeats 4000000 in
set_option maxRecDepth 100000 in
theorem mL_undo {l : Launch} {D : va_G} {G : Nat → ClassId} {ad : Nat → Nat} (hJ : qInj ad) (hst : l.stackTraces = false) {w : qMem}  {kF : Int32} {rF : Int32} {wF : qMem} {o : Nat} {cA : ClassId} {f0 : Nat → Int64} (hf : fL_undo w = some (kF, rF, wF)) : qHL l D G ad yL_undo cL_undo 3 [(0, 8, 11, 94)] 7 1 6 [.ref (ad 228), .ref o] w o cA .long (1, .inr (.inl f0)) kF (qPL kF rF.toInt64) wF := by
  obtain ⟨cE, r0, h0, hcase⟩ := qlh_s hf
  refine q_startL rfl (by decide +kernel) hJ (Nat.le_of_ble_eq_true rfl) ?_
  intro p e s m args below meth c0 ls hC hr hT hO0 hR hl
  have hx := hC.1
  have hb := hC.2.1
  have hts := hC.2.2.2.2.1
  have hown := hC.2.2.2.1
  have hl : lv_has ls 3 [(0, .ref (ad 228)), (1, .ref o)] := hl
  have hO : qOut o cA .long (1, .inr (.inl f0)) (qAdr ad s.heap.size) s s.heap := hO0
  refine lv_aload_n hx hb dL_undo_0 rfl (lv_at hl 1 rfl) ?_
  refine lv_iconst (v := 0) hx hb dL_undo_1 (by decide) ?_
  refine lv_aload_n hx hb dL_undo_2 rfl (lv_at hl 0 rfl) ?_
  refine qx_ki (As := []) (rest := [.int 0, .ref o]) hC hR (mX5_undo hJ hst h0) (by decide) (qsh_228 G ad _) rfl qkl_1101 qk_1102 qk_1103 qk_58 qk_1104 qhd_X5_undo ⟨Nat.le_of_ble_eq_true rfl, Nat.le_of_ble_eq_true rfl⟩ hl.1 rfl (Nat.le_of_ble_eq_true rfl) dL_undo_3 ⟨Nat.le_of_ble_eq_true rfl, Nat.le_of_ble_eq_true rfl⟩ (fun hne H locs ce q9 hz hk hR hce hcv hcl => ?_) (fun hc0 H locs hz hk hR => ?_)
  · have hO := qX_on qOut_k hO hz hk
    rcases hcase with ⟨h1, h2, h3⟩ | ⟨h1, h2, h3⟩ | ⟨h1, h2, h3⟩ | ⟨h1, h2, h3⟩
    · exact absurd h1 hne
    · have hcl2 : s.vm.findClass "java/lang/IllegalStateException" = some ce.cls := by rw [h2] at hcl; exact hcl
      refine vx_catch (own := RL) (name := "java/lang/IllegalStateException") (E := "java/lang/IllegalStateException") hown [] ⟨0, 8, 11, 94⟩ [] hT (fun z hz => by cases hz) (by decide) (by decide) (hts _ qkl_897) (va_Nw.use (q_kp_tab (List.mem_filter.mp qkc_94).2) (hC.2.2.2.2.2.2.2.2.2.2.2.2 _ qkc_94)) hce hcv hcl2 ?_
      refine lv_astore_n (lv' := [(2, .ref q9), (0, .ref (ad 228)), (1, .ref o)]) hx hb dL_undo_11 rfl hl (by decide) rfl (fun ls hl => ?_)
      refine lv_iconst (v := 1) hx hb dL_undo_12 (by decide) ?_
      exact q_endL hC hR.1 (qS_do hR) hO ⟨f0, rfl, fun h => absurd (h3.symm.trans h) (by decide)⟩ rfl hr h3.symm (Nat.le_of_ble_eq_true rfl) (Nat.le_of_ble_eq_true rfl) dL_undo_13
    · exact absurd h2 (by rw [show ([5] : List Nat).getD 1 0 = 0 from rfl]; exact h1)
    · exact absurd h2 (by rw [show ([5] : List Nat).getD 2 0 = 0 from rfl]; exact h1)
  · have hO := qX_on qOut_k hO hz hk
    have hk0 : kF = 0 ∧ rF = r0 := by
      rcases hcase with ⟨h1, h2, h3⟩ | ⟨h1, h2, h3⟩ | ⟨h1, h2, h3⟩ | ⟨h1, h2, h3⟩
      · exact ⟨h2, h3⟩
      · exact absurd hc0 h1
      · exact absurd hc0 h1
      · exact absurd hc0 h1
    obtain ⟨hk0, rfl⟩ := hk0
    refine lv_i2l hx hb dL_undo_6 rfl ?_
    refine q_outL hC hR hO dL_undo_7 (fun H locs hP hS hO => ?_)
    refine lv_goto (tgt := 14) hx hb dL_undo_8 (by decide) ?_
    refine lv_iconst (v := 0) hx hb dL_undo_14 (by decide) ?_
    exact q_endL hC hP hS hO ⟨_, rfl, fun _ => rfl⟩ rfl hr hk0.symm (Nat.le_of_ble_eq_true rfl) (Nat.le_of_ble_eq_true rfl) dL_undo_15
def fL_restore (w : qMem)  : Option (Int32 × Int32 × qMem) := qlh [5] (0 : Int32) (fX5_restore w)
theorem qhd_L_restore : yL_restore.cls ≠ "java/lang/invoke/MethodHandle" ∧ yL_restore.cls ≠ "java/lang/invoke/VarHandle" ∧ (parseMethodDescriptor yL_restore.desc).map (fun d => d.parameters.length) = some 2 := ⟨by decide +kernel, by decide +kernel, by decide +kernel⟩
set_option maxHeartbeats 4000000 in
set_option maxRecDepth 100000 in
theorem mL_restore {l : Launch} {D : va_G} {G : Nat → ClassId} {ad : Nat → Nat} (hJ : qInj ad) (hst : l.stackTraces = false) {w : qMem}  {kF : Int32} {rF : Int32} {wF : qMem} {o : Nat} {cA : ClassId} {f0 : Nat → Int64} (hf : fL_restore w = some (kF, rF, wF)) : qHL l D G ad yL_restore cL_restore 3 [(0, 8, 11, 94)] 7 1 6 [.ref (ad 228), .ref o] w o cA .long (1, .inr (.inl f0)) kF (qPL kF rF.toInt64) wF := by
  obtain ⟨cE, r0, h0, hcase⟩ := qlh_s hf
  refine q_startL rfl (by decide +kernel) hJ (Nat.le_of_ble_eq_true rfl) ?_
  intro p e s m args below meth c0 ls hC hr hT hO0 hR hl
  have hx := hC.1
  have hb := hC.2.1
  have hts := hC.2.2.2.2.1
  have hown := hC.2.2.2.1
  have hl : lv_has ls 3 [(0, .ref (ad 228)), (1, .ref o)] := hl
  have hO : qOut o cA .long (1, .inr (.inl f0)) (qAdr ad s.heap.size) s s.heap := hO0
  refine lv_aload_n hx hb dL_restore_0 rfl (lv_at hl 1 rfl) ?_
  refine lv_iconst (v := 0) hx hb dL_restore_1 (by decide) ?_
  refine lv_aload_n hx hb dL_restore_2 rfl (lv_at hl 0 rfl) ?_
  refine qx_ki (As := []) (rest := [.int 0, .ref o]) hC hR (mX5_restore hJ hst h0) (by decide) (qsh_228 G ad _) rfl qkl_1114 qk_1115 qk_1116 qk_58 qk_1117 qhd_X5_restore ⟨Nat.le_of_ble_eq_true rfl, Nat.le_of_ble_eq_true rfl⟩ hl.1 rfl (Nat.le_of_ble_eq_true rfl) dL_restore_3 ⟨Nat.le_of_ble_eq_true rfl, Nat.le_of_ble_eq_true rfl⟩ (fun hne H locs ce q9 hz hk hR hce hcv hcl => ?_) (fun hc0 H locs hz hk hR => ?_)
  · have hO := qX_on qOut_k hO hz hk
    rcases hcase with ⟨h1, h2, h3⟩ | ⟨h1, h2, h3⟩ | ⟨h1, h2, h3⟩ | ⟨h1, h2, h3⟩
    · exact absurd h1 hne
    · have hcl2 : s.vm.findClass "java/lang/IllegalStateException" = some ce.cls := by rw [h2] at hcl; exact hcl
      refine vx_catch (own := RL) (name := "java/lang/IllegalStateException") (E := "java/lang/IllegalStateException") hown [] ⟨0, 8, 11, 94⟩ [] hT (fun z hz => by cases hz) (by decide) (by decide) (hts _ qkl_897) (va_Nw.use (q_kp_tab (List.mem_filter.mp qkc_94).2) (hC.2.2.2.2.2.2.2.2.2.2.2.2 _ qkc_94)) hce hcv hcl2 ?_
      refine lv_astore_n (lv' := [(2, .ref q9), (0, .ref (ad 228)), (1, .ref o)]) hx hb dL_restore_11 rfl hl (by decide) rfl (fun ls hl => ?_)
      refine lv_iconst (v := 1) hx hb dL_restore_12 (by decide) ?_
      exact q_endL hC hR.1 (qS_do hR) hO ⟨f0, rfl, fun h => absurd (h3.symm.trans h) (by decide)⟩ rfl hr h3.symm (Nat.le_of_ble_eq_true rfl) (Nat.le_of_ble_eq_true rfl) dL_restore_13
    · exact absurd h2 (by rw [show ([5] : List Nat).getD 1 0 = 0 from rfl]; exact h1)
    · exact absurd h2 (by rw [show ([5] : List Nat).getD 2 0 = 0 from rfl]; exact h1)
  · have hO := qX_on qOut_k hO hz hk
    have hk0 : kF = 0 ∧ rF = r0 := by
      rcases hcase with ⟨h1, h2, h3⟩ | ⟨h1, h2, h3⟩ | ⟨h1, h2, h3⟩ | ⟨h1, h2, h3⟩
      · exact ⟨h2, h3⟩
      · exact absurd hc0 h1
      · exact absurd hc0 h1
      · exact absurd hc0 h1
    obtain ⟨hk0, rfl⟩ := hk0
    refine lv_i2l hx hb dL_restore_6 rfl ?_
    refine q_outL hC hR hO dL_restore_7 (fun H locs hP hS hO => ?_)
    refine lv_goto (tgt := 14) hx hb dL_restore_8 (by decide) ?_
    refine lv_iconst (v := 0) hx hb dL_restore_14 (by decide) ?_
    exact q_endL hC hP hS hO ⟨_, rfl, fun _ => rfl⟩ rfl hr hk0.symm (Nat.le_of_ble_eq_true rfl) (Nat.le_of_ble_eq_true rfl) dL_restore_15
