def qlb (o : Option (Nat × Int32 × qMem)) : Option (Nat × Int32 × qMem) := match o with
  | none => none
  | some (c, r, w) => some (c, if r = 0 then 0 else 1, w)
theorem qlb_s {o : Option (Nat × Int32 × qMem)} {c : Nat} {r : Int32} {w : qMem} (h : qlb o = some (c, r, w)) : ∃ r0 : Int32, o = some (c, r0, w) ∧ r = if r0 = 0 then 0 else 1 := by
  match o, h with
  | none, h => cases h
  | some (c0, r0, w0), h => cases h; exact ⟨r0, rfl, rfl⟩
def fL_cup (w : qMem) (a1 : Int32) (a2 : Int32) : Option (Int32 × qMem) := qlw [1, 2] [(-1), (-2)] (fX5_cup w a1 a2)
theorem qhd_L_cup : yL_cup.cls ≠ "java/lang/invoke/MethodHandle" ∧ yL_cup.cls ≠ "java/lang/invoke/VarHandle" ∧ (parseMethodDescriptor yL_cup.desc).map (fun d => d.parameters.length) = some 3 := ⟨by decide +kernel, by decide +kernel, by decide +kernel⟩
set_option maxHeartbeats 4000000 in
set_option maxRecDepth 100000 in
theorem mL_cup {l : Launch} {D : va_G} {G : Nat → ClassId} {ad : Nat → Nat} (hJ : qInj ad) (hst : l.stackTraces = false) {w : qMem} {a1 : Int32} {a2 : Int32} {rF : Int32} {wF : qMem} (hf : fL_cup w a1 a2 = some (rF, wF)) : qHW l D G ad yL_cup cL_cup 4 [(0, 6, 7, 14), (0, 6, 10, 16)] 10 1 6 [.ref (ad 228), .int a1, .int a2] w rF wF := by
  obtain ⟨cE, r0, h0, hcase⟩ := qlw_s hf
  refine q_startW rfl (by decide +kernel) hJ (Nat.le_of_ble_eq_true rfl) ?_
  intro p e s m args below meth c0 ls hC hr hT hN hR hl
  have hx := hC.1
  have hb := hC.2.1
  have hts := hC.2.2.2.2.1
  have hown := hC.2.2.2.1
  have hl : lv_has ls 4 [(0, .ref (ad 228)), (1, .int a1), (2, .int a2)] := hl
  refine lv_aload_n hx hb dL_cup_0 rfl (lv_at hl 0 rfl) ?_
  refine lv_iload_n hx hb dL_cup_1 rfl (lv_at hl 1 rfl) ?_
  refine lv_iload_n hx hb dL_cup_2 rfl (lv_at hl 2 rfl) ?_
  refine qx_ki (As := [.int a1, .int a2]) (rest := []) hC hR (mX5_cup hJ hst h0) (by decide) (qsh_228 G ad _) rfl qkl_269 qk_270 qk_271 qk_19 qk_272 qhd_X5_cup ⟨Nat.le_of_ble_eq_true rfl, Nat.le_of_ble_eq_true rfl⟩ hl.1 rfl (Nat.le_of_ble_eq_true rfl) dL_cup_3 ⟨Nat.le_of_ble_eq_true rfl, Nat.le_of_ble_eq_true rfl⟩ (fun hne H locs ce q9 hz hk hR hce hcv hcl => ?_) (fun hc0 H locs hz hk hR => ?_)
  · rcases hcase with ⟨h1, h2⟩ | ⟨h1, h2, h3⟩ | ⟨h1, h2, h3⟩ | ⟨h1, h2, h3⟩
    · exact absurd h1 hne
    · have hcl2 : s.vm.findClass "java/lang/IllegalArgumentException" = some ce.cls := by rw [h2] at hcl; exact hcl
      refine vx_catch (own := RL) (name := "java/lang/IllegalArgumentException") (E := "java/lang/IllegalArgumentException") hown [] ⟨0, 6, 7, 14⟩ [⟨0, 6, 10, 16⟩] hT (fun z hz => by cases hz) (by decide) (by decide) (hts _ qkl_267) (va_Nw.use (q_kp_tab (List.mem_filter.mp qkc_1).2) (hC.2.2.2.2.2.2.2.2.2.2.2.2 _ qkc_1)) hce hcv hcl2 ?_
      refine lv_astore_n (lv' := [(3, .ref q9), (0, .ref (ad 228)), (1, .int a1), (2, .int a2)]) hx hb dL_cup_7 rfl hl (by decide) rfl (fun ls hl => ?_)
      refine lv_iconst (v := (-1)) hx hb dL_cup_8 (by decide) ?_
      refine W.widen (k := 1) (n := 6) (Nat.le_of_ble_eq_true rfl) (Nat.le_of_ble_eq_true rfl) ?_
      exact q_iret hC hR hr rfl h3 rfl dL_cup_9
    · have hcl2 : s.vm.findClass "java/lang/UnsupportedOperationException" = some ce.cls := by rw [h2] at hcl; exact hcl
      refine vx_catch (own := RL) (name := "java/lang/UnsupportedOperationException") (E := "java/lang/UnsupportedOperationException") hown [⟨0, 6, 7, 14⟩] ⟨0, 6, 10, 16⟩ [] hT (fun z hz => by
        simp only [List.mem_cons, List.mem_nil_iff, or_false] at hz
        rcases hz with rfl
        · exact Or.inr ⟨by decide, "java/lang/IllegalArgumentException", hts _ qkl_267, hN.1⟩) (by decide) (by decide) (hts _ qkl_268) (va_Nw.use (q_kp_tab (List.mem_filter.mp qkc_2).2) (hC.2.2.2.2.2.2.2.2.2.2.2.2 _ qkc_2)) hce hcv hcl2 ?_
      refine lv_astore_n (lv' := [(3, .ref q9), (0, .ref (ad 228)), (1, .int a1), (2, .int a2)]) hx hb dL_cup_10 rfl hl (by decide) rfl (fun ls hl => ?_)
      refine lv_bipush (v := (-2)) hx hb dL_cup_11 (by decide) ?_
      refine W.widen (k := 1) (n := 6) (Nat.le_of_ble_eq_true rfl) (Nat.le_of_ble_eq_true rfl) ?_
      exact q_iret hC hR hr rfl h3 rfl dL_cup_13
    · exact absurd h2 (by rw [show ([1, 2] : List Nat).getD 2 0 = 0 from rfl]; exact h1)
  · have hk0 : rF = r0 := by
      rcases hcase with ⟨h1, h2⟩ | ⟨h1, h2, h3⟩ | ⟨h1, h2, h3⟩ | ⟨h1, h2, h3⟩
      · exact h2
      · exact absurd hc0 h1
      · exact absurd hc0 h1
      · exact absurd hc0 h1
    subst hk0
    refine W.widen (k := 1) (n := 6) (Nat.le_of_ble_eq_true rfl) (Nat.le_of_ble_eq_true rfl) ?_
    exact q_iret hC hR hr rfl rfl rfl dL_cup_6
def fL_lamp (w : qMem) (a1 : Int32) (a2 : Int32) : Option (Int32 × qMem) := qlw [1, 2] [(-1), (-2)] (fX5_lamp w a1 a2)
theorem qhd_L_lamp : yL_lamp.cls ≠ "java/lang/invoke/MethodHandle" ∧ yL_lamp.cls ≠ "java/lang/invoke/VarHandle" ∧ (parseMethodDescriptor yL_lamp.desc).map (fun d => d.parameters.length) = some 3 := ⟨by decide +kernel, by decide +kernel, by decide +kernel⟩
set_option maxHeartbeats 4000000 in
set_option maxRecDepth 100000 in
theorem mL_lamp {l : Launch} {D : va_G} {G : Nat → ClassId} {ad : Nat → Nat} (hJ : qInj ad) (hst : l.stackTraces = false) {w : qMem} {a1 : Int32} {a2 : Int32} {rF : Int32} {wF : qMem} (hf : fL_lamp w a1 a2 = some (rF, wF)) : qHW l D G ad yL_lamp cL_lamp 4 [(0, 6, 7, 14), (0, 6, 10, 16)] 10 1 6 [.ref (ad 228), .int a1, .int a2] w rF wF := by
  obtain ⟨cE, r0, h0, hcase⟩ := qlw_s hf
  refine q_startW rfl (by decide +kernel) hJ (Nat.le_of_ble_eq_true rfl) ?_
  intro p e s m args below meth c0 ls hC hr hT hN hR hl
  have hx := hC.1
  have hb := hC.2.1
  have hts := hC.2.2.2.2.1
  have hown := hC.2.2.2.1
  have hl : lv_has ls 4 [(0, .ref (ad 228)), (1, .int a1), (2, .int a2)] := hl
  refine lv_aload_n hx hb dL_lamp_0 rfl (lv_at hl 0 rfl) ?_
  refine lv_iload_n hx hb dL_lamp_1 rfl (lv_at hl 1 rfl) ?_
  refine lv_iload_n hx hb dL_lamp_2 rfl (lv_at hl 2 rfl) ?_
  refine qx_ki (As := [.int a1, .int a2]) (rest := []) hC hR (mX5_lamp hJ hst h0) (by decide) (qsh_228 G ad _) rfl qkl_524 qk_525 qk_526 qk_19 qk_527 qhd_X5_lamp ⟨Nat.le_of_ble_eq_true rfl, Nat.le_of_ble_eq_true rfl⟩ hl.1 rfl (Nat.le_of_ble_eq_true rfl) dL_lamp_3 ⟨Nat.le_of_ble_eq_true rfl, Nat.le_of_ble_eq_true rfl⟩ (fun hne H locs ce q9 hz hk hR hce hcv hcl => ?_) (fun hc0 H locs hz hk hR => ?_)
  · rcases hcase with ⟨h1, h2⟩ | ⟨h1, h2, h3⟩ | ⟨h1, h2, h3⟩ | ⟨h1, h2, h3⟩
    · exact absurd h1 hne
    · have hcl2 : s.vm.findClass "java/lang/IllegalArgumentException" = some ce.cls := by rw [h2] at hcl; exact hcl
      refine vx_catch (own := RL) (name := "java/lang/IllegalArgumentException") (E := "java/lang/IllegalArgumentException") hown [] ⟨0, 6, 7, 14⟩ [⟨0, 6, 10, 16⟩] hT (fun z hz => by cases hz) (by decide) (by decide) (hts _ qkl_267) (va_Nw.use (q_kp_tab (List.mem_filter.mp qkc_1).2) (hC.2.2.2.2.2.2.2.2.2.2.2.2 _ qkc_1)) hce hcv hcl2 ?_
      refine lv_astore_n (lv' := [(3, .ref q9), (0, .ref (ad 228)), (1, .int a1), (2, .int a2)]) hx hb dL_lamp_7 rfl hl (by decide) rfl (fun ls hl => ?_)
      refine lv_iconst (v := (-1)) hx hb dL_lamp_8 (by decide) ?_
      refine W.widen (k := 1) (n := 6) (Nat.le_of_ble_eq_true rfl) (Nat.le_of_ble_eq_true rfl) ?_
      exact q_iret hC hR hr rfl h3 rfl dL_lamp_9
    · have hcl2 : s.vm.findClass "java/lang/UnsupportedOperationException" = some ce.cls := by rw [h2] at hcl; exact hcl
      refine vx_catch (own := RL) (name := "java/lang/UnsupportedOperationException") (E := "java/lang/UnsupportedOperationException") hown [⟨0, 6, 7, 14⟩] ⟨0, 6, 10, 16⟩ [] hT (fun z hz => by
        simp only [List.mem_cons, List.mem_nil_iff, or_false] at hz
        rcases hz with rfl
        · exact Or.inr ⟨by decide, "java/lang/IllegalArgumentException", hts _ qkl_267, hN.1⟩) (by decide) (by decide) (hts _ qkl_268) (va_Nw.use (q_kp_tab (List.mem_filter.mp qkc_2).2) (hC.2.2.2.2.2.2.2.2.2.2.2.2 _ qkc_2)) hce hcv hcl2 ?_
      refine lv_astore_n (lv' := [(3, .ref q9), (0, .ref (ad 228)), (1, .int a1), (2, .int a2)]) hx hb dL_lamp_10 rfl hl (by decide) rfl (fun ls hl => ?_)
      refine lv_bipush (v := (-2)) hx hb dL_lamp_11 (by decide) ?_
      refine W.widen (k := 1) (n := 6) (Nat.le_of_ble_eq_true rfl) (Nat.le_of_ble_eq_true rfl) ?_
      exact q_iret hC hR hr rfl h3 rfl dL_lamp_13
    · exact absurd h2 (by rw [show ([1, 2] : List Nat).getD 2 0 = 0 from rfl]; exact h1)
  · have hk0 : rF = r0 := by
      rcases hcase with ⟨h1, h2⟩ | ⟨h1, h2, h3⟩ | ⟨h1, h2, h3⟩ | ⟨h1, h2, h3⟩
      · exact h2
      · exact absurd hc0 h1
      · exact absurd hc0 h1
      · exact absurd hc0 h1
    subst hk0
    refine W.widen (k := 1) (n := 6) (Nat.le_of_ble_eq_true rfl) (Nat.le_of_ble_eq_true rfl) ?_
    exact q_iret hC hR hr rfl rfl rfl dL_lamp_6
def fL_cat (w : qMem) (a1 : Int32) (a2 : Int32) : Option (Int32 × qMem) := qlw [1, 2] [(-1), (-2)] (fX5_cat w a1 a2)
theorem qhd_L_cat : yL_cat.cls ≠ "java/lang/invoke/MethodHandle" ∧ yL_cat.cls ≠ "java/lang/invoke/VarHandle" ∧ (parseMethodDescriptor yL_cat.desc).map (fun d => d.parameters.length) = some 3 := ⟨by decide +kernel, by decide +kernel, by decide +kernel⟩
set_option maxHeartbeats 4000000 in
set_option maxRecDepth 100000 in
theorem mL_cat {l : Launch} {D : va_G} {G : Nat → ClassId} {ad : Nat → Nat} (hJ : qInj ad) (hst : l.stackTraces = false) {w : qMem} {a1 : Int32} {a2 : Int32} {rF : Int32} {wF : qMem} (hf : fL_cat w a1 a2 = some (rF, wF)) : qHW l D G ad yL_cat cL_cat 4 [(0, 6, 7, 14), (0, 6, 10, 16)] 10 1 6 [.ref (ad 228), .int a1, .int a2] w rF wF := by
  obtain ⟨cE, r0, h0, hcase⟩ := qlw_s hf
  refine q_startW rfl (by decide +kernel) hJ (Nat.le_of_ble_eq_true rfl) ?_
  intro p e s m args below meth c0 ls hC hr hT hN hR hl
  have hx := hC.1
  have hb := hC.2.1
  have hts := hC.2.2.2.2.1
  have hown := hC.2.2.2.1
  have hl : lv_has ls 4 [(0, .ref (ad 228)), (1, .int a1), (2, .int a2)] := hl
  refine lv_aload_n hx hb dL_cat_0 rfl (lv_at hl 0 rfl) ?_
  refine lv_iload_n hx hb dL_cat_1 rfl (lv_at hl 1 rfl) ?_
  refine lv_iload_n hx hb dL_cat_2 rfl (lv_at hl 2 rfl) ?_
  refine qx_ki (As := [.int a1, .int a2]) (rest := []) hC hR (mX5_cat hJ hst h0) (by decide) (qsh_228 G ad _) rfl qkl_531 qk_532 qk_533 qk_19 qk_534 qhd_X5_cat ⟨Nat.le_of_ble_eq_true rfl, Nat.le_of_ble_eq_true rfl⟩ hl.1 rfl (Nat.le_of_ble_eq_true rfl) dL_cat_3 ⟨Nat.le_of_ble_eq_true rfl, Nat.le_of_ble_eq_true rfl⟩ (fun hne H locs ce q9 hz hk hR hce hcv hcl => ?_) (fun hc0 H locs hz hk hR => ?_)
  · rcases hcase with ⟨h1, h2⟩ | ⟨h1, h2, h3⟩ | ⟨h1, h2, h3⟩ | ⟨h1, h2, h3⟩
    · exact absurd h1 hne
    · have hcl2 : s.vm.findClass "java/lang/IllegalArgumentException" = some ce.cls := by rw [h2] at hcl; exact hcl
      refine vx_catch (own := RL) (name := "java/lang/IllegalArgumentException") (E := "java/lang/IllegalArgumentException") hown [] ⟨0, 6, 7, 14⟩ [⟨0, 6, 10, 16⟩] hT (fun z hz => by cases hz) (by decide) (by decide) (hts _ qkl_267) (va_Nw.use (q_kp_tab (List.mem_filter.mp qkc_1).2) (hC.2.2.2.2.2.2.2.2.2.2.2.2 _ qkc_1)) hce hcv hcl2 ?_
      refine lv_astore_n (lv' := [(3, .ref q9), (0, .ref (ad 228)), (1, .int a1), (2, .int a2)]) hx hb dL_cat_7 rfl hl (by decide) rfl (fun ls hl => ?_)
      refine lv_iconst (v := (-1)) hx hb dL_cat_8 (by decide) ?_
      refine W.widen (k := 1) (n := 6) (Nat.le_of_ble_eq_true rfl) (Nat.le_of_ble_eq_true rfl) ?_
      exact q_iret hC hR hr rfl h3 rfl dL_cat_9
    · have hcl2 : s.vm.findClass "java/lang/UnsupportedOperationException" = some ce.cls := by rw [h2] at hcl; exact hcl
      refine vx_catch (own := RL) (name := "java/lang/UnsupportedOperationException") (E := "java/lang/UnsupportedOperationException") hown [⟨0, 6, 7, 14⟩] ⟨0, 6, 10, 16⟩ [] hT (fun z hz => by
        simp only [List.mem_cons, List.mem_nil_iff, or_false] at hz
        rcases hz with rfl
        · exact Or.inr ⟨by decide, "java/lang/IllegalArgumentException", hts _ qkl_267, hN.1⟩) (by decide) (by decide) (hts _ qkl_268) (va_Nw.use (q_kp_tab (List.mem_filter.mp qkc_2).2) (hC.2.2.2.2.2.2.2.2.2.2.2.2 _ qkc_2)) hce hcv hcl2 ?_
      refine lv_astore_n (lv' := [(3, .ref q9), (0, .ref (ad 228)), (1, .int a1), (2, .int a2)]) hx hb dL_cat_10 rfl hl (by decide) rfl (fun ls hl => ?_)
      refine lv_bipush (v := (-2)) hx hb dL_cat_11 (by decide) ?_
      refine W.widen (k := 1) (n := 6) (Nat.le_of_ble_eq_true rfl) (Nat.le_of_ble_eq_true rfl) ?_
      exact q_iret hC hR hr rfl h3 rfl dL_cat_13
    · exact absurd h2 (by rw [show ([1, 2] : List Nat).getD 2 0 = 0 from rfl]; exact h1)
  · have hk0 : rF = r0 := by
      rcases hcase with ⟨h1, h2⟩ | ⟨h1, h2, h3⟩ | ⟨h1, h2, h3⟩ | ⟨h1, h2, h3⟩
      · exact h2
      · exact absurd hc0 h1
      · exact absurd hc0 h1
      · exact absurd hc0 h1
    subst hk0
    refine W.widen (k := 1) (n := 6) (Nat.le_of_ble_eq_true rfl) (Nat.le_of_ble_eq_true rfl) ?_
    exact q_iret hC hR hr rfl rfl rfl dL_cat_6
def fL_take (w : qMem) (a1 : Int32) : Option (Int32 × qMem) := qlw [3] [(-1)] (fX5_take w a1)
theorem qhd_L_take : yL_take.cls ≠ "java/lang/invoke/MethodHandle" ∧ yL_take.cls ≠ "java/lang/invoke/VarHandle" ∧ (parseMethodDescriptor yL_take.desc).map (fun d => d.parameters.length) = some 2 := ⟨by decide +kernel, by decide +kernel, by decide +kernel⟩
set_option maxHeartbeats 4000000 in
set_option maxRecDepth 100000 in
theorem mL_take {l : Launch} {D : va_G} {G : Nat → ClassId} {ad : Nat → Nat} (hJ : qInj ad) (hst : l.stackTraces = false) {w : qMem} {a1 : Int32} {rF : Int32} {wF : qMem} (hf : fL_take w a1 = some (rF, wF)) : qHW l D G ad yL_take cL_take 3 [(0, 5, 6, 28)] 9 1 6 [.ref (ad 228), .int a1] w rF wF := by
  obtain ⟨cE, r0, h0, hcase⟩ := qlw_s hf
  refine q_startW rfl (by decide +kernel) hJ (Nat.le_of_ble_eq_true rfl) ?_
  intro p e s m args below meth c0 ls hC hr hT hN hR hl
  have hx := hC.1
  have hb := hC.2.1
  have hts := hC.2.2.2.2.1
  have hown := hC.2.2.2.1
  have hl : lv_has ls 3 [(0, .ref (ad 228)), (1, .int a1)] := hl
  refine lv_aload_n hx hb dL_take_0 rfl (lv_at hl 0 rfl) ?_
  refine lv_iload_n hx hb dL_take_1 rfl (lv_at hl 1 rfl) ?_
  refine qx_ki (As := [.int a1]) (rest := []) hC hR (mX5_take hJ hst h0) (by decide) (qsh_228 G ad _) rfl qkl_1207 qk_1208 qk_1209 qk_19 qk_1210 qhd_X5_take ⟨Nat.le_of_ble_eq_true rfl, Nat.le_of_ble_eq_true rfl⟩ hl.1 rfl (Nat.le_of_ble_eq_true rfl) dL_take_2 ⟨Nat.le_of_ble_eq_true rfl, Nat.le_of_ble_eq_true rfl⟩ (fun hne H locs ce q9 hz hk hR hce hcv hcl => ?_) (fun hc0 H locs hz hk hR => ?_)
  · rcases hcase with ⟨h1, h2⟩ | ⟨h1, h2, h3⟩ | ⟨h1, h2, h3⟩ | ⟨h1, h2, h3⟩
    · exact absurd h1 hne
    · have hcl2 : s.vm.findClass "java/lang/IndexOutOfBoundsException" = some ce.cls := by rw [h2] at hcl; exact hcl
      refine vx_catch (own := RL) (name := "java/lang/IndexOutOfBoundsException") (E := "java/lang/IndexOutOfBoundsException") hown [] ⟨0, 5, 6, 28⟩ [] hT (fun z hz => by cases hz) (by decide) (by decide) (hts _ qkl_572) (va_Nw.use (q_kp_tab (List.mem_filter.mp qkc_3).2) (hC.2.2.2.2.2.2.2.2.2.2.2.2 _ qkc_3)) hce hcv hcl2 ?_
      refine lv_astore_n (lv' := [(2, .ref q9), (0, .ref (ad 228)), (1, .int a1)]) hx hb dL_take_6 rfl hl (by decide) rfl (fun ls hl => ?_)
      refine lv_iconst (v := (-1)) hx hb dL_take_7 (by decide) ?_
      refine W.widen (k := 1) (n := 6) (Nat.le_of_ble_eq_true rfl) (Nat.le_of_ble_eq_true rfl) ?_
      exact q_iret hC hR hr rfl h3 rfl dL_take_8
    · exact absurd h2 (by rw [show ([3] : List Nat).getD 1 0 = 0 from rfl]; exact h1)
    · exact absurd h2 (by rw [show ([3] : List Nat).getD 2 0 = 0 from rfl]; exact h1)
  · have hk0 : rF = r0 := by
      rcases hcase with ⟨h1, h2⟩ | ⟨h1, h2, h3⟩ | ⟨h1, h2, h3⟩ | ⟨h1, h2, h3⟩
      · exact h2
      · exact absurd hc0 h1
      · exact absurd hc0 h1
      · exact absurd hc0 h1
    subst hk0
    refine W.widen (k := 1) (n := 6) (Nat.le_of_ble_eq_true rfl) (Nat.le_of_ble_eq_true rfl) ?_
    exact q_iret hC hR hr rfl rfl rfl dL_take_5
def fL_cue (w : qMem) (a1 : Int32) (a2 : Int32) : Option (Int32 × qMem) := qlw [3, 1, 2] [(-1), (-2), (-3)] (fX5_cue w a1 a2)
theorem qhd_L_cue : yL_cue.cls ≠ "java/lang/invoke/MethodHandle" ∧ yL_cue.cls ≠ "java/lang/invoke/VarHandle" ∧ (parseMethodDescriptor yL_cue.desc).map (fun d => d.parameters.length) = some 3 := ⟨by decide +kernel, by decide +kernel, by decide +kernel⟩
set_option maxHeartbeats 4000000 in
set_option maxRecDepth 100000 in
theorem mL_cue {l : Launch} {D : va_G} {G : Nat → ClassId} {ad : Nat → Nat} (hJ : qInj ad) (hst : l.stackTraces = false) {w : qMem} {a1 : Int32} {a2 : Int32} {rF : Int32} {wF : qMem} (hf : fL_cue w a1 a2 = some (rF, wF)) : qHW l D G ad yL_cue cL_cue 4 [(0, 6, 7, 28), (0, 6, 10, 14), (0, 6, 14, 16)] 9 1 6 [.ref (ad 228), .int a1, .int a2] w rF wF := by
  obtain ⟨cE, r0, h0, hcase⟩ := qlw_s hf
  refine q_startW rfl (by decide +kernel) hJ (Nat.le_of_ble_eq_true rfl) ?_
  intro p e s m args below meth c0 ls hC hr hT hN hR hl
  have hx := hC.1
  have hb := hC.2.1
  have hts := hC.2.2.2.2.1
  have hown := hC.2.2.2.1
  have hl : lv_has ls 4 [(0, .ref (ad 228)), (1, .int a1), (2, .int a2)] := hl
  refine lv_aload_n hx hb dL_cue_0 rfl (lv_at hl 0 rfl) ?_
  refine lv_iload_n hx hb dL_cue_1 rfl (lv_at hl 1 rfl) ?_
  refine lv_iload_n hx hb dL_cue_2 rfl (lv_at hl 2 rfl) ?_
  refine qx_ki (As := [.int a1, .int a2]) (rest := []) hC hR (mX5_cue hJ hst h0) (by decide) (qsh_228 G ad _) rfl qkl_596 qk_597 qk_598 qk_19 qk_599 qhd_X5_cue ⟨Nat.le_of_ble_eq_true rfl, Nat.le_of_ble_eq_true rfl⟩ hl.1 rfl (Nat.le_of_ble_eq_true rfl) dL_cue_3 ⟨Nat.le_of_ble_eq_true rfl, Nat.le_of_ble_eq_true rfl⟩ (fun hne H locs ce q9 hz hk hR hce hcv hcl => ?_) (fun hc0 H locs hz hk hR => ?_)
  · rcases hcase with ⟨h1, h2⟩ | ⟨h1, h2, h3⟩ | ⟨h1, h2, h3⟩ | ⟨h1, h2, h3⟩
    · exact absurd h1 hne
    · have hcl2 : s.vm.findClass "java/lang/IndexOutOfBoundsException" = some ce.cls := by rw [h2] at hcl; exact hcl
      refine vx_catch (own := RL) (name := "java/lang/IndexOutOfBoundsException") (E := "java/lang/IndexOutOfBoundsException") hown [] ⟨0, 6, 7, 28⟩ [⟨0, 6, 10, 14⟩, ⟨0, 6, 14, 16⟩] hT (fun z hz => by cases hz) (by decide) (by decide) (hts _ qkl_572) (va_Nw.use (q_kp_tab (List.mem_filter.mp qkc_3).2) (hC.2.2.2.2.2.2.2.2.2.2.2.2 _ qkc_3)) hce hcv hcl2 ?_
      refine lv_astore_n (lv' := [(3, .ref q9), (0, .ref (ad 228)), (1, .int a1), (2, .int a2)]) hx hb dL_cue_7 rfl hl (by decide) rfl (fun ls hl => ?_)
      refine lv_iconst (v := (-1)) hx hb dL_cue_8 (by decide) ?_
      refine W.widen (k := 1) (n := 6) (Nat.le_of_ble_eq_true rfl) (Nat.le_of_ble_eq_true rfl) ?_
      exact q_iret hC hR hr rfl h3 rfl dL_cue_9
    · have hcl2 : s.vm.findClass "java/lang/IllegalArgumentException" = some ce.cls := by rw [h2] at hcl; exact hcl
      refine vx_catch (own := RL) (name := "java/lang/IllegalArgumentException") (E := "java/lang/IllegalArgumentException") hown [⟨0, 6, 7, 28⟩] ⟨0, 6, 10, 14⟩ [⟨0, 6, 14, 16⟩] hT (fun z hz => by
        simp only [List.mem_cons, List.mem_nil_iff, or_false] at hz
        rcases hz with rfl
        · exact Or.inr ⟨by decide, "java/lang/IndexOutOfBoundsException", hts _ qkl_572, hN.2.1⟩) (by decide) (by decide) (hts _ qkl_267) (va_Nw.use (q_kp_tab (List.mem_filter.mp qkc_1).2) (hC.2.2.2.2.2.2.2.2.2.2.2.2 _ qkc_1)) hce hcv hcl2 ?_
      refine lv_astore_n (lv' := [(3, .ref q9), (0, .ref (ad 228)), (1, .int a1), (2, .int a2)]) hx hb dL_cue_10 rfl hl (by decide) rfl (fun ls hl => ?_)
      refine lv_bipush (v := (-2)) hx hb dL_cue_11 (by decide) ?_
      refine W.widen (k := 1) (n := 6) (Nat.le_of_ble_eq_true rfl) (Nat.le_of_ble_eq_true rfl) ?_
      exact q_iret hC hR hr rfl h3 rfl dL_cue_13
    · have hcl2 : s.vm.findClass "java/lang/UnsupportedOperationException" = some ce.cls := by rw [h2] at hcl; exact hcl
      refine vx_catch (own := RL) (name := "java/lang/UnsupportedOperationException") (E := "java/lang/UnsupportedOperationException") hown [⟨0, 6, 7, 28⟩, ⟨0, 6, 10, 14⟩] ⟨0, 6, 14, 16⟩ [] hT (fun z hz => by
        simp only [List.mem_cons, List.mem_nil_iff, or_false] at hz
        rcases hz with rfl | rfl
        · exact Or.inr ⟨by decide, "java/lang/IndexOutOfBoundsException", hts _ qkl_572, hN.2.2.1⟩
        · exact Or.inr ⟨by decide, "java/lang/IllegalArgumentException", hts _ qkl_267, hN.1⟩) (by decide) (by decide) (hts _ qkl_268) (va_Nw.use (q_kp_tab (List.mem_filter.mp qkc_2).2) (hC.2.2.2.2.2.2.2.2.2.2.2.2 _ qkc_2)) hce hcv hcl2 ?_
      refine lv_astore_n (lv' := [(3, .ref q9), (0, .ref (ad 228)), (1, .int a1), (2, .int a2)]) hx hb dL_cue_14 rfl hl (by decide) rfl (fun ls hl => ?_)
      refine lv_bipush (v := (-3)) hx hb dL_cue_15 (by decide) ?_
      refine W.widen (k := 1) (n := 6) (Nat.le_of_ble_eq_true rfl) (Nat.le_of_ble_eq_true rfl) ?_
      exact q_iret hC hR hr rfl h3 rfl dL_cue_17
  · have hk0 : rF = r0 := by
      rcases hcase with ⟨h1, h2⟩ | ⟨h1, h2, h3⟩ | ⟨h1, h2, h3⟩ | ⟨h1, h2, h3⟩
      · exact h2
      · exact absurd hc0 h1
      · exact absurd hc0 h1
      · exact absurd hc0 h1
    subst hk0
    refine W.widen (k := 1) (n := 6) (Nat.le_of_ble_eq_true rfl) (Nat.le_of_ble_eq_true rfl) ?_
    exact q_iret hC hR hr rfl rfl rfl dL_cue_6
def fL_set (w : qMem) (a1 : Int32) : Option (Int32 × qMem) := qlw [1, 2] [(-1), (-2)] (fX5_set w a1)
theorem qhd_L_set : yL_set.cls ≠ "java/lang/invoke/MethodHandle" ∧ yL_set.cls ≠ "java/lang/invoke/VarHandle" ∧ (parseMethodDescriptor yL_set.desc).map (fun d => d.parameters.length) = some 2 := ⟨by decide +kernel, by decide +kernel, by decide +kernel⟩
set_option maxHeartbeats 4000000 in
set_option maxRecDepth 100000 in
theorem mL_set {l : Launch} {D : va_G} {G : Nat → ClassId} {ad : Nat → Nat} (hJ : qInj ad) (hst : l.stackTraces = false) {w : qMem} {a1 : Int32} {rF : Int32} {wF : qMem} (hf : fL_set w a1 = some (rF, wF)) : qHW l D G ad yL_set cL_set 3 [(0, 5, 6, 14), (0, 5, 9, 16)] 10 1 6 [.ref (ad 228), .int a1] w rF wF := by
  obtain ⟨cE, r0, h0, hcase⟩ := qlw_s hf
  refine q_startW rfl (by decide +kernel) hJ (Nat.le_of_ble_eq_true rfl) ?_
  intro p e s m args below meth c0 ls hC hr hT hN hR hl
  have hx := hC.1
  have hb := hC.2.1
  have hts := hC.2.2.2.2.1
  have hown := hC.2.2.2.1
  have hl : lv_has ls 3 [(0, .ref (ad 228)), (1, .int a1)] := hl
  refine lv_aload_n hx hb dL_set_0 rfl (lv_at hl 0 rfl) ?_
  refine lv_iload_n hx hb dL_set_1 rfl (lv_at hl 1 rfl) ?_
  refine qx_ki (As := [.int a1]) (rest := []) hC hR (mX5_set hJ hst h0) (by decide) (qsh_228 G ad _) rfl qkl_618 qk_619 qk_620 qk_19 qk_621 qhd_X5_set ⟨Nat.le_of_ble_eq_true rfl, Nat.le_of_ble_eq_true rfl⟩ hl.1 rfl (Nat.le_of_ble_eq_true rfl) dL_set_2 ⟨Nat.le_of_ble_eq_true rfl, Nat.le_of_ble_eq_true rfl⟩ (fun hne H locs ce q9 hz hk hR hce hcv hcl => ?_) (fun hc0 H locs hz hk hR => ?_)
  · rcases hcase with ⟨h1, h2⟩ | ⟨h1, h2, h3⟩ | ⟨h1, h2, h3⟩ | ⟨h1, h2, h3⟩
    · exact absurd h1 hne
    · have hcl2 : s.vm.findClass "java/lang/IllegalArgumentException" = some ce.cls := by rw [h2] at hcl; exact hcl
      refine vx_catch (own := RL) (name := "java/lang/IllegalArgumentException") (E := "java/lang/IllegalArgumentException") hown [] ⟨0, 5, 6, 14⟩ [⟨0, 5, 9, 16⟩] hT (fun z hz => by cases hz) (by decide) (by decide) (hts _ qkl_267) (va_Nw.use (q_kp_tab (List.mem_filter.mp qkc_1).2) (hC.2.2.2.2.2.2.2.2.2.2.2.2 _ qkc_1)) hce hcv hcl2 ?_
      refine lv_astore_n (lv' := [(2, .ref q9), (0, .ref (ad 228)), (1, .int a1)]) hx hb dL_set_6 rfl hl (by decide) rfl (fun ls hl => ?_)
      refine lv_iconst (v := (-1)) hx hb dL_set_7 (by decide) ?_
      refine W.widen (k := 1) (n := 6) (Nat.le_of_ble_eq_true rfl) (Nat.le_of_ble_eq_true rfl) ?_
      exact q_iret hC hR hr rfl h3 rfl dL_set_8
    · have hcl2 : s.vm.findClass "java/lang/UnsupportedOperationException" = some ce.cls := by rw [h2] at hcl; exact hcl
      refine vx_catch (own := RL) (name := "java/lang/UnsupportedOperationException") (E := "java/lang/UnsupportedOperationException") hown [⟨0, 5, 6, 14⟩] ⟨0, 5, 9, 16⟩ [] hT (fun z hz => by
        simp only [List.mem_cons, List.mem_nil_iff, or_false] at hz
        rcases hz with rfl
        · exact Or.inr ⟨by decide, "java/lang/IllegalArgumentException", hts _ qkl_267, hN.1⟩) (by decide) (by decide) (hts _ qkl_268) (va_Nw.use (q_kp_tab (List.mem_filter.mp qkc_2).2) (hC.2.2.2.2.2.2.2.2.2.2.2.2 _ qkc_2)) hce hcv hcl2 ?_
      refine lv_astore_n (lv' := [(2, .ref q9), (0, .ref (ad 228)), (1, .int a1)]) hx hb dL_set_9 rfl hl (by decide) rfl (fun ls hl => ?_)
      refine lv_bipush (v := (-2)) hx hb dL_set_10 (by decide) ?_
      refine W.widen (k := 1) (n := 6) (Nat.le_of_ble_eq_true rfl) (Nat.le_of_ble_eq_true rfl) ?_
      exact q_iret hC hR hr rfl h3 rfl dL_set_12
    · exact absurd h2 (by rw [show ([1, 2] : List Nat).getD 2 0 = 0 from rfl]; exact h1)
  · have hk0 : rF = r0 := by
      rcases hcase with ⟨h1, h2⟩ | ⟨h1, h2, h3⟩ | ⟨h1, h2, h3⟩ | ⟨h1, h2, h3⟩
      · exact h2
      · exact absurd hc0 h1
      · exact absurd hc0 h1
      · exact absurd hc0 h1
    subst hk0
    refine W.widen (k := 1) (n := 6) (Nat.le_of_ble_eq_true rfl) (Nat.le_of_ble_eq_true rfl) ?_
    exact q_iret hC hR hr rfl rfl rfl dL_set_5
def fL_add (w : qMem) (a1 : Int32) : Option (Int32 × qMem) := qlw [1, 2] [(-1), (-2)] (fX5_add w a1)
theorem qhd_L_add : yL_add.cls ≠ "java/lang/invoke/MethodHandle" ∧ yL_add.cls ≠ "java/lang/invoke/VarHandle" ∧ (parseMethodDescriptor yL_add.desc).map (fun d => d.parameters.length) = some 2 := ⟨by decide +kernel, by decide +kernel, by decide +kernel⟩
set_option maxHeartbeats 4000000 in
set_option maxRecDepth 100000 in
theorem mL_add {l : Launch} {D : va_G} {G : Nat → ClassId} {ad : Nat → Nat} (hJ : qInj ad) (hst : l.stackTraces = false) {w : qMem} {a1 : Int32} {rF : Int32} {wF : qMem} (hf : fL_add w a1 = some (rF, wF)) : qHW l D G ad yL_add cL_add 3 [(0, 5, 6, 14), (0, 5, 9, 16)] 10 1 6 [.ref (ad 228), .int a1] w rF wF := by
  obtain ⟨cE, r0, h0, hcase⟩ := qlw_s hf
  refine q_startW rfl (by decide +kernel) hJ (Nat.le_of_ble_eq_true rfl) ?_
  intro p e s m args below meth c0 ls hC hr hT hN hR hl
  have hx := hC.1
  have hb := hC.2.1
  have hts := hC.2.2.2.2.1
  have hown := hC.2.2.2.1
  have hl : lv_has ls 3 [(0, .ref (ad 228)), (1, .int a1)] := hl
  refine lv_aload_n hx hb dL_add_0 rfl (lv_at hl 0 rfl) ?_
  refine lv_iload_n hx hb dL_add_1 rfl (lv_at hl 1 rfl) ?_
  refine qx_ki (As := [.int a1]) (rest := []) hC hR (mX5_add hJ hst h0) (by decide) (qsh_228 G ad _) rfl qkl_635 qk_636 qk_637 qk_19 qk_638 qhd_X5_add ⟨Nat.le_of_ble_eq_true rfl, Nat.le_of_ble_eq_true rfl⟩ hl.1 rfl (Nat.le_of_ble_eq_true rfl) dL_add_2 ⟨Nat.le_of_ble_eq_true rfl, Nat.le_of_ble_eq_true rfl⟩ (fun hne H locs ce q9 hz hk hR hce hcv hcl => ?_) (fun hc0 H locs hz hk hR => ?_)
  · rcases hcase with ⟨h1, h2⟩ | ⟨h1, h2, h3⟩ | ⟨h1, h2, h3⟩ | ⟨h1, h2, h3⟩
    · exact absurd h1 hne
    · have hcl2 : s.vm.findClass "java/lang/IllegalArgumentException" = some ce.cls := by rw [h2] at hcl; exact hcl
      refine vx_catch (own := RL) (name := "java/lang/IllegalArgumentException") (E := "java/lang/IllegalArgumentException") hown [] ⟨0, 5, 6, 14⟩ [⟨0, 5, 9, 16⟩] hT (fun z hz => by cases hz) (by decide) (by decide) (hts _ qkl_267) (va_Nw.use (q_kp_tab (List.mem_filter.mp qkc_1).2) (hC.2.2.2.2.2.2.2.2.2.2.2.2 _ qkc_1)) hce hcv hcl2 ?_
      refine lv_astore_n (lv' := [(2, .ref q9), (0, .ref (ad 228)), (1, .int a1)]) hx hb dL_add_6 rfl hl (by decide) rfl (fun ls hl => ?_)
      refine lv_iconst (v := (-1)) hx hb dL_add_7 (by decide) ?_
      refine W.widen (k := 1) (n := 6) (Nat.le_of_ble_eq_true rfl) (Nat.le_of_ble_eq_true rfl) ?_
      exact q_iret hC hR hr rfl h3 rfl dL_add_8
    · have hcl2 : s.vm.findClass "java/lang/UnsupportedOperationException" = some ce.cls := by rw [h2] at hcl; exact hcl
      refine vx_catch (own := RL) (name := "java/lang/UnsupportedOperationException") (E := "java/lang/UnsupportedOperationException") hown [⟨0, 5, 6, 14⟩] ⟨0, 5, 9, 16⟩ [] hT (fun z hz => by
        simp only [List.mem_cons, List.mem_nil_iff, or_false] at hz
        rcases hz with rfl
        · exact Or.inr ⟨by decide, "java/lang/IllegalArgumentException", hts _ qkl_267, hN.1⟩) (by decide) (by decide) (hts _ qkl_268) (va_Nw.use (q_kp_tab (List.mem_filter.mp qkc_2).2) (hC.2.2.2.2.2.2.2.2.2.2.2.2 _ qkc_2)) hce hcv hcl2 ?_
      refine lv_astore_n (lv' := [(2, .ref q9), (0, .ref (ad 228)), (1, .int a1)]) hx hb dL_add_9 rfl hl (by decide) rfl (fun ls hl => ?_)
      refine lv_bipush (v := (-2)) hx hb dL_add_10 (by decide) ?_
      refine W.widen (k := 1) (n := 6) (Nat.le_of_ble_eq_true rfl) (Nat.le_of_ble_eq_true rfl) ?_
      exact q_iret hC hR hr rfl h3 rfl dL_add_12
    · exact absurd h2 (by rw [show ([1, 2] : List Nat).getD 2 0 = 0 from rfl]; exact h1)
  · have hk0 : rF = r0 := by
      rcases hcase with ⟨h1, h2⟩ | ⟨h1, h2, h3⟩ | ⟨h1, h2, h3⟩ | ⟨h1, h2, h3⟩
      · exact h2
      · exact absurd hc0 h1
      · exact absurd hc0 h1
      · exact absurd hc0 h1
    subst hk0
    refine W.widen (k := 1) (n := 6) (Nat.le_of_ble_eq_true rfl) (Nat.le_of_ble_eq_true rfl) ?_
    exact q_iret hC hR hr rfl rfl rfl dL_add_5
def fL_perform (w : qMem)  : Option (Int32 × qMem) := qlw [2] [(-2)] (fX5_perform w)
theorem qhd_L_perform : yL_perform.cls ≠ "java/lang/invoke/MethodHandle" ∧ yL_perform.cls ≠ "java/lang/invoke/VarHandle" ∧ (parseMethodDescriptor yL_perform.desc).map (fun d => d.parameters.length) = some 1 := ⟨by decide +kernel, by decide +kernel, by decide +kernel⟩
set_option maxHeartbeats 4000000 in
set_option maxRecDepth 100000 in
theorem mL_perform {l : Launch} {D : va_G} {G : Nat → ClassId} {ad : Nat → Nat} (hJ : qInj ad) (hst : l.stackTraces = false) {w : qMem}  {rF : Int32} {wF : qMem} (hf : fL_perform w = some (rF, wF)) : qHW l D G ad yL_perform cL_perform 2 [(0, 4, 5, 16)] 9 1 6 [.ref (ad 228)] w rF wF := by
  obtain ⟨cE, r0, h0, hcase⟩ := qlw_s hf
  refine q_startW rfl (by decide +kernel) hJ (Nat.le_of_ble_eq_true rfl) ?_
  intro p e s m args below meth c0 ls hC hr hT hN hR hl
  have hx := hC.1
  have hb := hC.2.1
  have hts := hC.2.2.2.2.1
  have hown := hC.2.2.2.1
  have hl : lv_has ls 2 [(0, .ref (ad 228))] := hl
  refine lv_aload_n hx hb dL_perform_0 rfl (lv_at hl 0 rfl) ?_
  refine qx_ki (As := []) (rest := []) hC hR (mX5_perform hJ hst h0) (by decide) (qsh_228 G ad _) rfl qkl_1214 qk_1215 qk_1216 qk_19 qk_1217 qhd_X5_perform ⟨Nat.le_of_ble_eq_true rfl, Nat.le_of_ble_eq_true rfl⟩ hl.1 rfl (Nat.le_of_ble_eq_true rfl) dL_perform_1 ⟨Nat.le_of_ble_eq_true rfl, Nat.le_of_ble_eq_true rfl⟩ (fun hne H locs ce q9 hz hk hR hce hcv hcl => ?_) (fun hc0 H locs hz hk hR => ?_)
  · rcases hcase with ⟨h1, h2⟩ | ⟨h1, h2, h3⟩ | ⟨h1, h2, h3⟩ | ⟨h1, h2, h3⟩
    · exact absurd h1 hne
    · have hcl2 : s.vm.findClass "java/lang/UnsupportedOperationException" = some ce.cls := by rw [h2] at hcl; exact hcl
      refine vx_catch (own := RL) (name := "java/lang/UnsupportedOperationException") (E := "java/lang/UnsupportedOperationException") hown [] ⟨0, 4, 5, 16⟩ [] hT (fun z hz => by cases hz) (by decide) (by decide) (hts _ qkl_268) (va_Nw.use (q_kp_tab (List.mem_filter.mp qkc_2).2) (hC.2.2.2.2.2.2.2.2.2.2.2.2 _ qkc_2)) hce hcv hcl2 ?_
      refine lv_astore_n (lv' := [(1, .ref q9), (0, .ref (ad 228))]) hx hb dL_perform_5 rfl hl (by decide) rfl (fun ls hl => ?_)
      refine lv_bipush (v := (-2)) hx hb dL_perform_6 (by decide) ?_
      refine W.widen (k := 1) (n := 6) (Nat.le_of_ble_eq_true rfl) (Nat.le_of_ble_eq_true rfl) ?_
      exact q_iret hC hR hr rfl h3 rfl dL_perform_8
    · exact absurd h2 (by rw [show ([2] : List Nat).getD 1 0 = 0 from rfl]; exact h1)
    · exact absurd h2 (by rw [show ([2] : List Nat).getD 2 0 = 0 from rfl]; exact h1)
  · have hk0 : rF = r0 := by
      rcases hcase with ⟨h1, h2⟩ | ⟨h1, h2, h3⟩ | ⟨h1, h2, h3⟩ | ⟨h1, h2, h3⟩
      · exact h2
      · exact absurd hc0 h1
      · exact absurd hc0 h1
      · exact absurd hc0 h1
    subst hk0
    refine W.widen (k := 1) (n := 6) (Nat.le_of_ble_eq_true rfl) (Nat.le_of_ble_eq_true rfl) ?_
    exact q_iret hC hR hr rfl rfl rfl dL_perform_4
def fL_of (w : qMem) (a1 : Int32) (a2 : Int32) : Option (Int32 × qMem) := qlw [3, 1] [(-11), (-12)] (fX5_propOf w a1 a2)
theorem qhd_L_of : yL_of.cls ≠ "java/lang/invoke/MethodHandle" ∧ yL_of.cls ≠ "java/lang/invoke/VarHandle" ∧ (parseMethodDescriptor yL_of.desc).map (fun d => d.parameters.length) = some 3 := ⟨by decide +kernel, by decide +kernel, by decide +kernel⟩
set_option maxHeartbeats 4000000 in
set_option maxRecDepth 100000 in
theorem mL_of {l : Launch} {D : va_G} {G : Nat → ClassId} {ad : Nat → Nat} (hJ : qInj ad) (hst : l.stackTraces = false) {w : qMem} {a1 : Int32} {a2 : Int32} {rF : Int32} {wF : qMem} (hf : fL_of w a1 a2 = some (rF, wF)) : qHW l D G ad yL_of cL_of 4 [(0, 6, 7, 28), (0, 6, 11, 14)] 8 2 12 [.ref (ad 228), .int a1, .int a2] w rF wF := by
  obtain ⟨cE, r0, h0, hcase⟩ := qlw_s hf
  refine q_startW rfl (by decide +kernel) hJ (Nat.le_of_ble_eq_true rfl) ?_
  intro p e s m args below meth c0 ls hC hr hT hN hR hl
  have hx := hC.1
  have hb := hC.2.1
  have hts := hC.2.2.2.2.1
  have hown := hC.2.2.2.1
  have hl : lv_has ls 4 [(0, .ref (ad 228)), (1, .int a1), (2, .int a2)] := hl
  refine lv_aload_n hx hb dL_of_0 rfl (lv_at hl 0 rfl) ?_
  refine lv_iload_n hx hb dL_of_1 rfl (lv_at hl 1 rfl) ?_
  refine lv_iload_n hx hb dL_of_2 rfl (lv_at hl 2 rfl) ?_
  refine qx_ki (As := [.int a1, .int a2]) (rest := []) hC hR (mX5_propOf hJ hst h0) (by decide) (qsh_228 G ad _) rfl qkl_650 qk_651 qk_652 qk_19 qk_653 qhd_X5_propOf ⟨Nat.le_of_ble_eq_true rfl, Nat.le_of_ble_eq_true rfl⟩ hl.1 rfl (Nat.le_of_ble_eq_true rfl) dL_of_3 ⟨Nat.le_of_ble_eq_true rfl, Nat.le_of_ble_eq_true rfl⟩ (fun hne H locs ce q9 hz hk hR hce hcv hcl => ?_) (fun hc0 H locs hz hk hR => ?_)
  · rcases hcase with ⟨h1, h2⟩ | ⟨h1, h2, h3⟩ | ⟨h1, h2, h3⟩ | ⟨h1, h2, h3⟩
    · exact absurd h1 hne
    · have hcl2 : s.vm.findClass "java/lang/IndexOutOfBoundsException" = some ce.cls := by rw [h2] at hcl; exact hcl
      refine vx_catch (own := RL) (name := "java/lang/IndexOutOfBoundsException") (E := "java/lang/IndexOutOfBoundsException") hown [] ⟨0, 6, 7, 28⟩ [⟨0, 6, 11, 14⟩] hT (fun z hz => by cases hz) (by decide) (by decide) (hts _ qkl_572) (va_Nw.use (q_kp_tab (List.mem_filter.mp qkc_3).2) (hC.2.2.2.2.2.2.2.2.2.2.2.2 _ qkc_3)) hce hcv hcl2 ?_
      refine lv_astore_n (lv' := [(3, .ref q9), (0, .ref (ad 228)), (1, .int a1), (2, .int a2)]) hx hb dL_of_7 rfl hl (by decide) rfl (fun ls hl => ?_)
      refine lv_bipush (v := (-11)) hx hb dL_of_8 (by decide) ?_
      refine W.widen (k := 2) (n := 12) (Nat.le_of_ble_eq_true rfl) (Nat.le_of_ble_eq_true rfl) ?_
      exact q_iret hC hR hr rfl h3 rfl dL_of_10
    · have hcl2 : s.vm.findClass "java/lang/IllegalArgumentException" = some ce.cls := by rw [h2] at hcl; exact hcl
      refine vx_catch (own := RL) (name := "java/lang/IllegalArgumentException") (E := "java/lang/IllegalArgumentException") hown [⟨0, 6, 7, 28⟩] ⟨0, 6, 11, 14⟩ [] hT (fun z hz => by
        simp only [List.mem_cons, List.mem_nil_iff, or_false] at hz
        rcases hz with rfl
        · exact Or.inr ⟨by decide, "java/lang/IndexOutOfBoundsException", hts _ qkl_572, hN.2.1⟩) (by decide) (by decide) (hts _ qkl_267) (va_Nw.use (q_kp_tab (List.mem_filter.mp qkc_1).2) (hC.2.2.2.2.2.2.2.2.2.2.2.2 _ qkc_1)) hce hcv hcl2 ?_
      refine lv_astore_n (lv' := [(3, .ref q9), (0, .ref (ad 228)), (1, .int a1), (2, .int a2)]) hx hb dL_of_11 rfl hl (by decide) rfl (fun ls hl => ?_)
      refine lv_bipush (v := (-12)) hx hb dL_of_12 (by decide) ?_
      refine W.widen (k := 2) (n := 12) (Nat.le_of_ble_eq_true rfl) (Nat.le_of_ble_eq_true rfl) ?_
      exact q_iret hC hR hr rfl h3 rfl dL_of_14
    · exact absurd h2 (by rw [show ([3, 1] : List Nat).getD 2 0 = 0 from rfl]; exact h1)
  · have hk0 : rF = r0 := by
      rcases hcase with ⟨h1, h2⟩ | ⟨h1, h2, h3⟩ | ⟨h1, h2, h3⟩ | ⟨h1, h2, h3⟩
      · exact h2
      · exact absurd hc0 h1
      · exact absurd hc0 h1
      · exact absurd hc0 h1
    subst hk0
    refine W.widen (k := 2) (n := 12) (Nat.le_of_ble_eq_true rfl) (Nat.le_of_ble_eq_true rfl) ?_
    exact q_iret hC hR hr rfl rfl rfl dL_of_6
def fL_programme (w : qMem) (a1 : Int32) : Option (Int32 × qMem) := qlw [4] [(-13)] (fX5_programme w a1)
theorem qhd_L_programme : yL_programme.cls ≠ "java/lang/invoke/MethodHandle" ∧ yL_programme.cls ≠ "java/lang/invoke/VarHandle" ∧ (parseMethodDescriptor yL_programme.desc).map (fun d => d.parameters.length) = some 2 := ⟨by decide +kernel, by decide +kernel, by decide +kernel⟩
set_option maxHeartbeats 4000000 in
set_option maxRecDepth 100000 in
theorem mL_programme {l : Launch} {D : va_G} {G : Nat → ClassId} {ad : Nat → Nat} (hJ : qInj ad) (hst : l.stackTraces = false) {w : qMem} {a1 : Int32} {rF : Int32} {wF : qMem} (hf : fL_programme w a1 = some (rF, wF)) : qHW l D G ad yL_programme cL_programme 3 [(0, 5, 6, 49)] 7 1 6 [.ref (ad 228), .int a1] w rF wF := by
  obtain ⟨cE, r0, h0, hcase⟩ := qlw_s hf
  refine q_startW rfl (by decide +kernel) hJ (Nat.le_of_ble_eq_true rfl) ?_
  intro p e s m args below meth c0 ls hC hr hT hN hR hl
  have hx := hC.1
  have hb := hC.2.1
  have hts := hC.2.2.2.2.1
  have hown := hC.2.2.2.1
  have hl : lv_has ls 3 [(0, .ref (ad 228)), (1, .int a1)] := hl
  refine lv_aload_n hx hb dL_programme_0 rfl (lv_at hl 0 rfl) ?_
  refine lv_iload_n hx hb dL_programme_1 rfl (lv_at hl 1 rfl) ?_
  refine qx_ki (As := [.int a1]) (rest := []) hC hR (mX5_programme hJ hst h0) (by decide) (qsh_228 G ad _) rfl qkl_753 qk_754 qk_755 qk_19 qk_756 qhd_X5_programme ⟨Nat.le_of_ble_eq_true rfl, Nat.le_of_ble_eq_true rfl⟩ hl.1 rfl (Nat.le_of_ble_eq_true rfl) dL_programme_2 ⟨Nat.le_of_ble_eq_true rfl, Nat.le_of_ble_eq_true rfl⟩ (fun hne H locs ce q9 hz hk hR hce hcv hcl => ?_) (fun hc0 H locs hz hk hR => ?_)
  · rcases hcase with ⟨h1, h2⟩ | ⟨h1, h2, h3⟩ | ⟨h1, h2, h3⟩ | ⟨h1, h2, h3⟩
    · exact absurd h1 hne
    · have hcl2 : s.vm.findClass "java/util/NoSuchElementException" = some ce.cls := by rw [h2] at hcl; exact hcl
      refine vx_catch (own := RL) (name := "java/util/NoSuchElementException") (E := "java/util/NoSuchElementException") hown [] ⟨0, 5, 6, 49⟩ [] hT (fun z hz => by cases hz) (by decide) (by decide) (hts _ qkl_548) (va_Nw.use (q_kp_tab (List.mem_filter.mp qkc_4).2) (hC.2.2.2.2.2.2.2.2.2.2.2.2 _ qkc_4)) hce hcv hcl2 ?_
      refine lv_astore_n (lv' := [(2, .ref q9), (0, .ref (ad 228)), (1, .int a1)]) hx hb dL_programme_6 rfl hl (by decide) rfl (fun ls hl => ?_)
      refine lv_bipush (v := (-13)) hx hb dL_programme_7 (by decide) ?_
      refine W.widen (k := 1) (n := 6) (Nat.le_of_ble_eq_true rfl) (Nat.le_of_ble_eq_true rfl) ?_
      exact q_iret hC hR hr rfl h3 rfl dL_programme_9
    · exact absurd h2 (by rw [show ([4] : List Nat).getD 1 0 = 0 from rfl]; exact h1)
    · exact absurd h2 (by rw [show ([4] : List Nat).getD 2 0 = 0 from rfl]; exact h1)
  · have hk0 : rF = r0 := by
      rcases hcase with ⟨h1, h2⟩ | ⟨h1, h2, h3⟩ | ⟨h1, h2, h3⟩ | ⟨h1, h2, h3⟩
      · exact h2
      · exact absurd hc0 h1
      · exact absurd hc0 h1
      · exact absurd hc0 h1
    subst hk0
    refine W.widen (k := 1) (n := 6) (Nat.le_of_ble_eq_true rfl) (Nat.le_of_ble_eq_true rfl) ?_
    exact q_iret hC hR hr rfl rfl rfl dL_programme_5
def fL_on (w : qMem) (a1 : Int32) (a2 : Int32) (a3 : Int32) : Option (Int32 × qMem) := qlw [1] [(-12)] (fX5_on w a1 a2 a3)
theorem qhd_L_on : yL_on.cls ≠ "java/lang/invoke/MethodHandle" ∧ yL_on.cls ≠ "java/lang/invoke/VarHandle" ∧ (parseMethodDescriptor yL_on.desc).map (fun d => d.parameters.length) = some 4 := ⟨by decide +kernel, by decide +kernel, by decide +kernel⟩
set_option maxHeartbeats 4000000 in
set_option maxRecDepth 100000 in
theorem mL_on {l : Launch} {D : va_G} {G : Nat → ClassId} {ad : Nat → Nat} (hJ : qInj ad) (hst : l.stackTraces = false) {w : qMem} {a1 : Int32} {a2 : Int32} {a3 : Int32} {rF : Int32} {wF : qMem} (hf : fL_on w a1 a2 a3 = some (rF, wF)) : qHW l D G ad yL_on cL_on 5 [(0, 7, 8, 14)] 7 1 6 [.ref (ad 228), .int a1, .int a2, .int a3] w rF wF := by
  obtain ⟨cE, r0, h0, hcase⟩ := qlw_s hf
  refine q_startW rfl (by decide +kernel) hJ (Nat.le_of_ble_eq_true rfl) ?_
  intro p e s m args below meth c0 ls hC hr hT hN hR hl
  have hx := hC.1
  have hb := hC.2.1
  have hts := hC.2.2.2.2.1
  have hown := hC.2.2.2.1
  have hl : lv_has ls 5 [(0, .ref (ad 228)), (1, .int a1), (2, .int a2), (3, .int a3)] := hl
  refine lv_aload_n hx hb dL_on_0 rfl (lv_at hl 0 rfl) ?_
  refine lv_iload_n hx hb dL_on_1 rfl (lv_at hl 1 rfl) ?_
  refine lv_iload_n hx hb dL_on_2 rfl (lv_at hl 2 rfl) ?_
  refine lv_iload_n hx hb dL_on_3 rfl (lv_at hl 3 rfl) ?_
  refine qx_ki (As := [.int a1, .int a2, .int a3]) (rest := []) hC hR (mX5_on hJ hst h0) (by decide) (qsh_228 G ad _) rfl qkl_668 qk_669 qk_670 qk_19 qk_671 qhd_X5_on ⟨Nat.le_of_ble_eq_true rfl, Nat.le_of_ble_eq_true rfl⟩ hl.1 rfl (Nat.le_of_ble_eq_true rfl) dL_on_4 ⟨Nat.le_of_ble_eq_true rfl, Nat.le_of_ble_eq_true rfl⟩ (fun hne H locs ce q9 hz hk hR hce hcv hcl => ?_) (fun hc0 H locs hz hk hR => ?_)
  · rcases hcase with ⟨h1, h2⟩ | ⟨h1, h2, h3⟩ | ⟨h1, h2, h3⟩ | ⟨h1, h2, h3⟩
    · exact absurd h1 hne
    · have hcl2 : s.vm.findClass "java/lang/IllegalArgumentException" = some ce.cls := by rw [h2] at hcl; exact hcl
      refine vx_catch (own := RL) (name := "java/lang/IllegalArgumentException") (E := "java/lang/IllegalArgumentException") hown [] ⟨0, 7, 8, 14⟩ [] hT (fun z hz => by cases hz) (by decide) (by decide) (hts _ qkl_267) (va_Nw.use (q_kp_tab (List.mem_filter.mp qkc_1).2) (hC.2.2.2.2.2.2.2.2.2.2.2.2 _ qkc_1)) hce hcv hcl2 ?_
      refine lv_astore (lv' := [(4, .ref q9), (0, .ref (ad 228)), (1, .int a1), (2, .int a2), (3, .int a3)]) hx hb dL_on_8 hl (by decide) rfl (fun ls hl => ?_)
      refine lv_bipush (v := (-12)) hx hb dL_on_10 (by decide) ?_
      refine W.widen (k := 1) (n := 6) (Nat.le_of_ble_eq_true rfl) (Nat.le_of_ble_eq_true rfl) ?_
      exact q_iret hC hR hr rfl h3 rfl dL_on_12
    · exact absurd h2 (by rw [show ([1] : List Nat).getD 1 0 = 0 from rfl]; exact h1)
    · exact absurd h2 (by rw [show ([1] : List Nat).getD 2 0 = 0 from rfl]; exact h1)
  · have hk0 : rF = r0 := by
      rcases hcase with ⟨h1, h2⟩ | ⟨h1, h2, h3⟩ | ⟨h1, h2, h3⟩ | ⟨h1, h2, h3⟩
      · exact h2
      · exact absurd hc0 h1
      · exact absurd hc0 h1
      · exact absurd hc0 h1
    subst hk0
    refine W.widen (k := 1) (n := 6) (Nat.le_of_ble_eq_true rfl) (Nat.le_of_ble_eq_true rfl) ?_
    exact q_iret hC hR hr rfl rfl rfl dL_on_7
def fL_wouldMark (w : qMem) (a1 : Int32) : Option (Int32 × qMem) := qlw [1] [(-12)] (fX5_wouldMark w a1)
theorem qhd_L_wouldMark : yL_wouldMark.cls ≠ "java/lang/invoke/MethodHandle" ∧ yL_wouldMark.cls ≠ "java/lang/invoke/VarHandle" ∧ (parseMethodDescriptor yL_wouldMark.desc).map (fun d => d.parameters.length) = some 2 := ⟨by decide +kernel, by decide +kernel, by decide +kernel⟩
set_option maxHeartbeats 4000000 in
set_option maxRecDepth 100000 in
theorem mL_wouldMark {l : Launch} {D : va_G} {G : Nat → ClassId} {ad : Nat → Nat} (hJ : qInj ad) (hst : l.stackTraces = false) {w : qMem} {a1 : Int32} {rF : Int32} {wF : qMem} (hf : fL_wouldMark w a1 = some (rF, wF)) : qHW l D G ad yL_wouldMark cL_wouldMark 3 [(0, 5, 6, 14)] 8 1 6 [.ref (ad 228), .int a1] w rF wF := by
  obtain ⟨cE, r0, h0, hcase⟩ := qlw_s hf
  refine q_startW rfl (by decide +kernel) hJ (Nat.le_of_ble_eq_true rfl) ?_
  intro p e s m args below meth c0 ls hC hr hT hN hR hl
  have hx := hC.1
  have hb := hC.2.1
  have hts := hC.2.2.2.2.1
  have hown := hC.2.2.2.1
  have hl : lv_has ls 3 [(0, .ref (ad 228)), (1, .int a1)] := hl
  refine lv_aload_n hx hb dL_wouldMark_0 rfl (lv_at hl 0 rfl) ?_
  refine lv_iload_n hx hb dL_wouldMark_1 rfl (lv_at hl 1 rfl) ?_
  refine qx_ki (As := [.int a1]) (rest := []) hC hR (mX5_wouldMark hJ hst h0) (by decide) (qsh_228 G ad _) rfl qkl_689 qk_690 qk_691 qk_19 qk_692 qhd_X5_wouldMark ⟨Nat.le_of_ble_eq_true rfl, Nat.le_of_ble_eq_true rfl⟩ hl.1 rfl (Nat.le_of_ble_eq_true rfl) dL_wouldMark_2 ⟨Nat.le_of_ble_eq_true rfl, Nat.le_of_ble_eq_true rfl⟩ (fun hne H locs ce q9 hz hk hR hce hcv hcl => ?_) (fun hc0 H locs hz hk hR => ?_)
  · rcases hcase with ⟨h1, h2⟩ | ⟨h1, h2, h3⟩ | ⟨h1, h2, h3⟩ | ⟨h1, h2, h3⟩
    · exact absurd h1 hne
    · have hcl2 : s.vm.findClass "java/lang/IllegalArgumentException" = some ce.cls := by rw [h2] at hcl; exact hcl
      refine vx_catch (own := RL) (name := "java/lang/IllegalArgumentException") (E := "java/lang/IllegalArgumentException") hown [] ⟨0, 5, 6, 14⟩ [] hT (fun z hz => by cases hz) (by decide) (by decide) (hts _ qkl_267) (va_Nw.use (q_kp_tab (List.mem_filter.mp qkc_1).2) (hC.2.2.2.2.2.2.2.2.2.2.2.2 _ qkc_1)) hce hcv hcl2 ?_
      refine lv_astore_n (lv' := [(2, .ref q9), (0, .ref (ad 228)), (1, .int a1)]) hx hb dL_wouldMark_6 rfl hl (by decide) rfl (fun ls hl => ?_)
      refine lv_bipush (v := (-12)) hx hb dL_wouldMark_7 (by decide) ?_
      refine W.widen (k := 1) (n := 6) (Nat.le_of_ble_eq_true rfl) (Nat.le_of_ble_eq_true rfl) ?_
      exact q_iret hC hR hr rfl h3 rfl dL_wouldMark_9
    · exact absurd h2 (by rw [show ([1] : List Nat).getD 1 0 = 0 from rfl]; exact h1)
    · exact absurd h2 (by rw [show ([1] : List Nat).getD 2 0 = 0 from rfl]; exact h1)
  · have hk0 : rF = r0 := by
      rcases hcase with ⟨h1, h2⟩ | ⟨h1, h2, h3⟩ | ⟨h1, h2, h3⟩ | ⟨h1, h2, h3⟩
      · exact h2
      · exact absurd hc0 h1
      · exact absurd hc0 h1
      · exact absurd hc0 h1
    subst hk0
    refine W.widen (k := 1) (n := 6) (Nat.le_of_ble_eq_true rfl) (Nat.le_of_ble_eq_true rfl) ?_
    exact q_iret hC hR hr rfl rfl rfl dL_wouldMark_5
def fL_wouldBreak (w : qMem) (a1 : Int32) (a2 : Int32) : Option (Int32 × qMem) := qlw [1] [(-12)] (fX5_wouldBreak w a1 a2)
theorem qhd_L_wouldBreak : yL_wouldBreak.cls ≠ "java/lang/invoke/MethodHandle" ∧ yL_wouldBreak.cls ≠ "java/lang/invoke/VarHandle" ∧ (parseMethodDescriptor yL_wouldBreak.desc).map (fun d => d.parameters.length) = some 3 := ⟨by decide +kernel, by decide +kernel, by decide +kernel⟩
set_option maxHeartbeats 4000000 in
set_option maxRecDepth 100000 in
theorem mL_wouldBreak {l : Launch} {D : va_G} {G : Nat → ClassId} {ad : Nat → Nat} (hJ : qInj ad) (hst : l.stackTraces = false) {w : qMem} {a1 : Int32} {a2 : Int32} {rF : Int32} {wF : qMem} (hf : fL_wouldBreak w a1 a2 = some (rF, wF)) : qHW l D G ad yL_wouldBreak cL_wouldBreak 4 [(0, 6, 7, 14)] 8 1 6 [.ref (ad 228), .int a1, .int a2] w rF wF := by
  obtain ⟨cE, r0, h0, hcase⟩ := qlw_s hf
  refine q_startW rfl (by decide +kernel) hJ (Nat.le_of_ble_eq_true rfl) ?_
  intro p e s m args below meth c0 ls hC hr hT hN hR hl
  have hx := hC.1
  have hb := hC.2.1
  have hts := hC.2.2.2.2.1
  have hown := hC.2.2.2.1
  have hl : lv_has ls 4 [(0, .ref (ad 228)), (1, .int a1), (2, .int a2)] := hl
  refine lv_aload_n hx hb dL_wouldBreak_0 rfl (lv_at hl 0 rfl) ?_
  refine lv_iload_n hx hb dL_wouldBreak_1 rfl (lv_at hl 1 rfl) ?_
  refine lv_iload_n hx hb dL_wouldBreak_2 rfl (lv_at hl 2 rfl) ?_
  refine qx_ki (As := [.int a1, .int a2]) (rest := []) hC hR (mX5_wouldBreak hJ hst h0) (by decide) (qsh_228 G ad _) rfl qkl_704 qk_705 qk_706 qk_19 qk_707 qhd_X5_wouldBreak ⟨Nat.le_of_ble_eq_true rfl, Nat.le_of_ble_eq_true rfl⟩ hl.1 rfl (Nat.le_of_ble_eq_true rfl) dL_wouldBreak_3 ⟨Nat.le_of_ble_eq_true rfl, Nat.le_of_ble_eq_true rfl⟩ (fun hne H locs ce q9 hz hk hR hce hcv hcl => ?_) (fun hc0 H locs hz hk hR => ?_)
  · rcases hcase with ⟨h1, h2⟩ | ⟨h1, h2, h3⟩ | ⟨h1, h2, h3⟩ | ⟨h1, h2, h3⟩
    · exact absurd h1 hne
    · have hcl2 : s.vm.findClass "java/lang/IllegalArgumentException" = some ce.cls := by rw [h2] at hcl; exact hcl
      refine vx_catch (own := RL) (name := "java/lang/IllegalArgumentException") (E := "java/lang/IllegalArgumentException") hown [] ⟨0, 6, 7, 14⟩ [] hT (fun z hz => by cases hz) (by decide) (by decide) (hts _ qkl_267) (va_Nw.use (q_kp_tab (List.mem_filter.mp qkc_1).2) (hC.2.2.2.2.2.2.2.2.2.2.2.2 _ qkc_1)) hce hcv hcl2 ?_
      refine lv_astore_n (lv' := [(3, .ref q9), (0, .ref (ad 228)), (1, .int a1), (2, .int a2)]) hx hb dL_wouldBreak_7 rfl hl (by decide) rfl (fun ls hl => ?_)
      refine lv_bipush (v := (-12)) hx hb dL_wouldBreak_8 (by decide) ?_
      refine W.widen (k := 1) (n := 6) (Nat.le_of_ble_eq_true rfl) (Nat.le_of_ble_eq_true rfl) ?_
      exact q_iret hC hR hr rfl h3 rfl dL_wouldBreak_10
    · exact absurd h2 (by rw [show ([1] : List Nat).getD 1 0 = 0 from rfl]; exact h1)
    · exact absurd h2 (by rw [show ([1] : List Nat).getD 2 0 = 0 from rfl]; exact h1)
  · have hk0 : rF = r0 := by
      rcases hcase with ⟨h1, h2⟩ | ⟨h1, h2, h3⟩ | ⟨h1, h2, h3⟩ | ⟨h1, h2, h3⟩
      · exact h2
      · exact absurd hc0 h1
      · exact absurd hc0 h1
      · exact absurd hc0 h1
    subst hk0
    refine W.widen (k := 1) (n := 6) (Nat.le_of_ble_eq_true rfl) (Nat.le_of_ble_eq_true rfl) ?_
    exact q_iret hC hR hr rfl rfl rfl dL_wouldBreak_6
def fL_leastBreaking (w : qMem)  : Option (Int32 × qMem) := qlw [4] [(-13)] (fX5_leastBreaking w)
theorem qhd_L_leastBreaking : yL_leastBreaking.cls ≠ "java/lang/invoke/MethodHandle" ∧ yL_leastBreaking.cls ≠ "java/lang/invoke/VarHandle" ∧ (parseMethodDescriptor yL_leastBreaking.desc).map (fun d => d.parameters.length) = some 1 := ⟨by decide +kernel, by decide +kernel, by decide +kernel⟩
set_option maxHeartbeats 4000000 in
set_option maxRecDepth 100000 in
theorem mL_leastBreaking {l : Launch} {D : va_G} {G : Nat → ClassId} {ad : Nat → Nat} (hJ : qInj ad) (hst : l.stackTraces = false) {w : qMem}  {rF : Int32} {wF : qMem} (hf : fL_leastBreaking w = some (rF, wF)) : qHW l D G ad yL_leastBreaking cL_leastBreaking 2 [(0, 4, 5, 49)] 7 1 6 [.ref (ad 228)] w rF wF := by
  obtain ⟨cE, r0, h0, hcase⟩ := qlw_s hf
  refine q_startW rfl (by decide +kernel) hJ (Nat.le_of_ble_eq_true rfl) ?_
  intro p e s m args below meth c0 ls hC hr hT hN hR hl
  have hx := hC.1
  have hb := hC.2.1
  have hts := hC.2.2.2.2.1
  have hown := hC.2.2.2.1
  have hl : lv_has ls 2 [(0, .ref (ad 228))] := hl
  refine lv_aload_n hx hb dL_leastBreaking_0 rfl (lv_at hl 0 rfl) ?_
  refine qx_ki (As := []) (rest := []) hC hR (mX5_leastBreaking hJ hst h0) (by decide) (qsh_228 G ad _) rfl qkl_735 qk_736 qk_737 qk_19 qk_738 qhd_X5_leastBreaking ⟨Nat.le_of_ble_eq_true rfl, Nat.le_of_ble_eq_true rfl⟩ hl.1 rfl (Nat.le_of_ble_eq_true rfl) dL_leastBreaking_1 ⟨Nat.le_of_ble_eq_true rfl, Nat.le_of_ble_eq_true rfl⟩ (fun hne H locs ce q9 hz hk hR hce hcv hcl => ?_) (fun hc0 H locs hz hk hR => ?_)
  · rcases hcase with ⟨h1, h2⟩ | ⟨h1, h2, h3⟩ | ⟨h1, h2, h3⟩ | ⟨h1, h2, h3⟩
    · exact absurd h1 hne
    · have hcl2 : s.vm.findClass "java/util/NoSuchElementException" = some ce.cls := by rw [h2] at hcl; exact hcl
      refine vx_catch (own := RL) (name := "java/util/NoSuchElementException") (E := "java/util/NoSuchElementException") hown [] ⟨0, 4, 5, 49⟩ [] hT (fun z hz => by cases hz) (by decide) (by decide) (hts _ qkl_548) (va_Nw.use (q_kp_tab (List.mem_filter.mp qkc_4).2) (hC.2.2.2.2.2.2.2.2.2.2.2.2 _ qkc_4)) hce hcv hcl2 ?_
      refine lv_astore_n (lv' := [(1, .ref q9), (0, .ref (ad 228))]) hx hb dL_leastBreaking_5 rfl hl (by decide) rfl (fun ls hl => ?_)
      refine lv_bipush (v := (-13)) hx hb dL_leastBreaking_6 (by decide) ?_
      refine W.widen (k := 1) (n := 6) (Nat.le_of_ble_eq_true rfl) (Nat.le_of_ble_eq_true rfl) ?_
      exact q_iret hC hR hr rfl h3 rfl dL_leastBreaking_8
    · exact absurd h2 (by rw [show ([4] : List Nat).getD 1 0 = 0 from rfl]; exact h1)
    · exact absurd h2 (by rw [show ([4] : List Nat).getD 2 0 = 0 from rfl]; exact h1)
  · have hk0 : rF = r0 := by
      rcases hcase with ⟨h1, h2⟩ | ⟨h1, h2, h3⟩ | ⟨h1, h2, h3⟩ | ⟨h1, h2, h3⟩
      · exact h2
      · exact absurd hc0 h1
      · exact absurd hc0 h1
      · exact absurd hc0 h1
    subst hk0
    refine W.widen (k := 1) (n := 6) (Nat.le_of_ble_eq_true rfl) (Nat.le_of_ble_eq_true rfl) ?_
    exact q_iret hC hR hr rfl rfl rfl dL_leastBreaking_4
def fL_shocksFor (w : qMem) (a1 : Int32) : Option (Int32 × qMem) := qlw [3] [(-11)] (fX5_shocksFor w a1)
theorem qhd_L_shocksFor : yL_shocksFor.cls ≠ "java/lang/invoke/MethodHandle" ∧ yL_shocksFor.cls ≠ "java/lang/invoke/VarHandle" ∧ (parseMethodDescriptor yL_shocksFor.desc).map (fun d => d.parameters.length) = some 2 := ⟨by decide +kernel, by decide +kernel, by decide +kernel⟩
set_option maxHeartbeats 4000000 in
set_option maxRecDepth 100000 in
theorem mL_shocksFor {l : Launch} {D : va_G} {G : Nat → ClassId} {ad : Nat → Nat} (hJ : qInj ad) (hst : l.stackTraces = false) {w : qMem} {a1 : Int32} {rF : Int32} {wF : qMem} (hf : fL_shocksFor w a1 = some (rF, wF)) : qHW l D G ad yL_shocksFor cL_shocksFor 3 [(0, 5, 6, 28)] 8 1 6 [.ref (ad 228), .int a1] w rF wF := by
  obtain ⟨cE, r0, h0, hcase⟩ := qlw_s hf
  refine q_startW rfl (by decide +kernel) hJ (Nat.le_of_ble_eq_true rfl) ?_
  intro p e s m args below meth c0 ls hC hr hT hN hR hl
  have hx := hC.1
  have hb := hC.2.1
  have hts := hC.2.2.2.2.1
  have hown := hC.2.2.2.1
  have hl : lv_has ls 3 [(0, .ref (ad 228)), (1, .int a1)] := hl
  refine lv_aload_n hx hb dL_shocksFor_0 rfl (lv_at hl 0 rfl) ?_
  refine lv_iload_n hx hb dL_shocksFor_1 rfl (lv_at hl 1 rfl) ?_
  refine qx_ki (As := [.int a1]) (rest := []) hC hR (mX5_shocksFor hJ hst h0) (by decide) (qsh_228 G ad _) rfl qkl_724 qk_725 qk_726 qk_19 qk_727 qhd_X5_shocksFor ⟨Nat.le_of_ble_eq_true rfl, Nat.le_of_ble_eq_true rfl⟩ hl.1 rfl (Nat.le_of_ble_eq_true rfl) dL_shocksFor_2 ⟨Nat.le_of_ble_eq_true rfl, Nat.le_of_ble_eq_true rfl⟩ (fun hne H locs ce q9 hz hk hR hce hcv hcl => ?_) (fun hc0 H locs hz hk hR => ?_)
  · rcases hcase with ⟨h1, h2⟩ | ⟨h1, h2, h3⟩ | ⟨h1, h2, h3⟩ | ⟨h1, h2, h3⟩
    · exact absurd h1 hne
    · have hcl2 : s.vm.findClass "java/lang/IndexOutOfBoundsException" = some ce.cls := by rw [h2] at hcl; exact hcl
      refine vx_catch (own := RL) (name := "java/lang/IndexOutOfBoundsException") (E := "java/lang/IndexOutOfBoundsException") hown [] ⟨0, 5, 6, 28⟩ [] hT (fun z hz => by cases hz) (by decide) (by decide) (hts _ qkl_572) (va_Nw.use (q_kp_tab (List.mem_filter.mp qkc_3).2) (hC.2.2.2.2.2.2.2.2.2.2.2.2 _ qkc_3)) hce hcv hcl2 ?_
      refine lv_astore_n (lv' := [(2, .ref q9), (0, .ref (ad 228)), (1, .int a1)]) hx hb dL_shocksFor_6 rfl hl (by decide) rfl (fun ls hl => ?_)
      refine lv_bipush (v := (-11)) hx hb dL_shocksFor_7 (by decide) ?_
      refine W.widen (k := 1) (n := 6) (Nat.le_of_ble_eq_true rfl) (Nat.le_of_ble_eq_true rfl) ?_
      exact q_iret hC hR hr rfl h3 rfl dL_shocksFor_9
    · exact absurd h2 (by rw [show ([3] : List Nat).getD 1 0 = 0 from rfl]; exact h1)
    · exact absurd h2 (by rw [show ([3] : List Nat).getD 2 0 = 0 from rfl]; exact h1)
  · have hk0 : rF = r0 := by
      rcases hcase with ⟨h1, h2⟩ | ⟨h1, h2, h3⟩ | ⟨h1, h2, h3⟩ | ⟨h1, h2, h3⟩
      · exact h2
      · exact absurd hc0 h1
      · exact absurd hc0 h1
      · exact absurd hc0 h1
    subst hk0
    refine W.widen (k := 1) (n := 6) (Nat.le_of_ble_eq_true rfl) (Nat.le_of_ble_eq_true rfl) ?_
    exact q_iret hC hR hr rfl rfl rfl dL_shocksFor_5
def fL_isBroken (w : qMem) (a1 : Int32) : Option (Int32 × qMem) := qlw [3] [(-11)] (qlb (fX5_isBroken w a1))
theorem qhd_L_isBroken : yL_isBroken.cls ≠ "java/lang/invoke/MethodHandle" ∧ yL_isBroken.cls ≠ "java/lang/invoke/VarHandle" ∧ (parseMethodDescriptor yL_isBroken.desc).map (fun d => d.parameters.length) = some 2 := ⟨by decide +kernel, by decide +kernel, by decide +kernel⟩
set_option maxHeartbeats 4000000 in
set_option maxRecDepth 100000 in
theorem mL_isBroken {l : Launch} {D : va_G} {G : Nat → ClassId} {ad : Nat → Nat} (hJ : qInj ad) (hst : l.stackTraces = false) {w : qMem} {a1 : Int32} {rF : Int32} {wF : qMem} (hf : fL_isBroken w a1 = some (rF, wF)) : qHW l D G ad yL_isBroken cL_isBroken 3 [(0, 13, 14, 28)] 8 1 6 [.ref (ad 228), .int a1] w rF wF := by
  obtain ⟨cE, r0, h0, hcase⟩ := qlw_s hf
  obtain ⟨r9, h0, hr9⟩ := qlb_s h0
  refine q_startW rfl (by decide +kernel) hJ (Nat.le_of_ble_eq_true rfl) ?_
  intro p e s m args below meth c0 ls hC hr hT hN hR hl
  have hx := hC.1
  have hb := hC.2.1
  have hts := hC.2.2.2.2.1
  have hown := hC.2.2.2.1
  have hl : lv_has ls 3 [(0, .ref (ad 228)), (1, .int a1)] := hl
  refine lv_aload_n hx hb dL_isBroken_0 rfl (lv_at hl 0 rfl) ?_
  refine lv_iload_n hx hb dL_isBroken_1 rfl (lv_at hl 1 rfl) ?_
  refine qx_ki (As := [.int a1]) (rest := []) hC hR (mX5_isBroken hJ hst h0) (by decide) (qsh_228 G ad _) rfl qkl_826 qk_827 qk_828 qk_19 qk_829 qhd_X5_isBroken ⟨Nat.le_of_ble_eq_true rfl, Nat.le_of_ble_eq_true rfl⟩ hl.1 rfl (Nat.le_of_ble_eq_true rfl) dL_isBroken_2 ⟨Nat.le_of_ble_eq_true rfl, Nat.le_of_ble_eq_true rfl⟩ (fun hne H locs ce q9 hz hk hR hce hcv hcl => ?_) (fun hc0 H locs hz hk hR => ?_)
  · rcases hcase with ⟨h1, h2⟩ | ⟨h1, h2, h3⟩ | ⟨h1, h2, h3⟩ | ⟨h1, h2, h3⟩
    · exact absurd h1 hne
    · have hcl2 : s.vm.findClass "java/lang/IndexOutOfBoundsException" = some ce.cls := by rw [h2] at hcl; exact hcl
      refine vx_catch (own := RL) (name := "java/lang/IndexOutOfBoundsException") (E := "java/lang/IndexOutOfBoundsException") hown [] ⟨0, 13, 14, 28⟩ [] hT (fun z hz => by cases hz) (by decide) (by decide) (hts _ qkl_572) (va_Nw.use (q_kp_tab (List.mem_filter.mp qkc_3).2) (hC.2.2.2.2.2.2.2.2.2.2.2.2 _ qkc_3)) hce hcv hcl2 ?_
      refine lv_astore_n (lv' := [(2, .ref q9), (0, .ref (ad 228)), (1, .int a1)]) hx hb dL_isBroken_14 rfl hl (by decide) rfl (fun ls hl => ?_)
      refine lv_bipush (v := (-11)) hx hb dL_isBroken_15 (by decide) ?_
      refine W.widen (k := 1) (n := 6) (Nat.le_of_ble_eq_true rfl) (Nat.le_of_ble_eq_true rfl) ?_
      exact q_iret hC hR hr rfl h3 rfl dL_isBroken_17
    · exact absurd h2 (by rw [show ([3] : List Nat).getD 1 0 = 0 from rfl]; exact h1)
    · exact absurd h2 (by rw [show ([3] : List Nat).getD 2 0 = 0 from rfl]; exact h1)
  · have hk0 : rF = r0 := by
      rcases hcase with ⟨h1, h2⟩ | ⟨h1, h2, h3⟩ | ⟨h1, h2, h3⟩ | ⟨h1, h2, h3⟩
      · exact h2
      · exact absurd hc0 h1
      · exact absurd hc0 h1
      · exact absurd hc0 h1
    subst hk0
    refine lv_if_eq (tgt := 12) hx hb dL_isBroken_5 (by decide) (fun c_1 => ?_) (fun c_1 => ?_)
    · refine lv_iconst (v := 0) hx hb dL_isBroken_12 (by decide) ?_
      refine W.widen (k := 1) (n := 6) (Nat.le_of_ble_eq_true rfl) (Nat.le_of_ble_eq_true rfl) ?_
      exact q_iret hC hR hr rfl (by rw [hr9, if_pos c_1]) rfl dL_isBroken_13
    · refine lv_iconst (v := 1) hx hb dL_isBroken_8 (by decide) ?_
      refine lv_goto (tgt := 13) hx hb dL_isBroken_9 (by decide) ?_
      refine W.widen (k := 1) (n := 6) (Nat.le_of_ble_eq_true rfl) (Nat.le_of_ble_eq_true rfl) ?_
      exact q_iret hC hR hr rfl (by rw [hr9, if_neg c_1]) rfl dL_isBroken_13
def fL_cupAt (w : qMem) (a1 : Int32) : Option (Int32 × qMem) := qlw [4] [(-13)] (fX5_cupAt w a1)
theorem qhd_L_cupAt : yL_cupAt.cls ≠ "java/lang/invoke/MethodHandle" ∧ yL_cupAt.cls ≠ "java/lang/invoke/VarHandle" ∧ (parseMethodDescriptor yL_cupAt.desc).map (fun d => d.parameters.length) = some 2 := ⟨by decide +kernel, by decide +kernel, by decide +kernel⟩
set_option maxHeartbeats 4000000 in
set_option maxRecDepth 100000 in
theorem mL_cupAt {l : Launch} {D : va_G} {G : Nat → ClassId} {ad : Nat → Nat} (hJ : qInj ad) (hst : l.stackTraces = false) {w : qMem} {a1 : Int32} {rF : Int32} {wF : qMem} (hf : fL_cupAt w a1 = some (rF, wF)) : qHW l D G ad yL_cupAt cL_cupAt 3 [(0, 5, 6, 49)] 8 1 6 [.ref (ad 228), .int a1] w rF wF := by
  obtain ⟨cE, r0, h0, hcase⟩ := qlw_s hf
  refine q_startW rfl (by decide +kernel) hJ (Nat.le_of_ble_eq_true rfl) ?_
  intro p e s m args below meth c0 ls hC hr hT hN hR hl
  have hx := hC.1
  have hb := hC.2.1
  have hts := hC.2.2.2.2.1
  have hown := hC.2.2.2.1
  have hl : lv_has ls 3 [(0, .ref (ad 228)), (1, .int a1)] := hl
  refine lv_aload_n hx hb dL_cupAt_0 rfl (lv_at hl 0 rfl) ?_
  refine lv_iload_n hx hb dL_cupAt_1 rfl (lv_at hl 1 rfl) ?_
  refine qx_ki (As := [.int a1]) (rest := []) hC hR (mX5_cupAt hJ hst h0) (by decide) (qsh_228 G ad _) rfl qkl_785 qk_786 qk_787 qk_19 qk_788 qhd_X5_cupAt ⟨Nat.le_of_ble_eq_true rfl, Nat.le_of_ble_eq_true rfl⟩ hl.1 rfl (Nat.le_of_ble_eq_true rfl) dL_cupAt_2 ⟨Nat.le_of_ble_eq_true rfl, Nat.le_of_ble_eq_true rfl⟩ (fun hne H locs ce q9 hz hk hR hce hcv hcl => ?_) (fun hc0 H locs hz hk hR => ?_)
  · rcases hcase with ⟨h1, h2⟩ | ⟨h1, h2, h3⟩ | ⟨h1, h2, h3⟩ | ⟨h1, h2, h3⟩
    · exact absurd h1 hne
    · have hcl2 : s.vm.findClass "java/util/NoSuchElementException" = some ce.cls := by rw [h2] at hcl; exact hcl
      refine vx_catch (own := RL) (name := "java/util/NoSuchElementException") (E := "java/util/NoSuchElementException") hown [] ⟨0, 5, 6, 49⟩ [] hT (fun z hz => by cases hz) (by decide) (by decide) (hts _ qkl_548) (va_Nw.use (q_kp_tab (List.mem_filter.mp qkc_4).2) (hC.2.2.2.2.2.2.2.2.2.2.2.2 _ qkc_4)) hce hcv hcl2 ?_
      refine lv_astore_n (lv' := [(2, .ref q9), (0, .ref (ad 228)), (1, .int a1)]) hx hb dL_cupAt_6 rfl hl (by decide) rfl (fun ls hl => ?_)
      refine lv_bipush (v := (-13)) hx hb dL_cupAt_7 (by decide) ?_
      refine W.widen (k := 1) (n := 6) (Nat.le_of_ble_eq_true rfl) (Nat.le_of_ble_eq_true rfl) ?_
      exact q_iret hC hR hr rfl h3 rfl dL_cupAt_9
    · exact absurd h2 (by rw [show ([4] : List Nat).getD 1 0 = 0 from rfl]; exact h1)
    · exact absurd h2 (by rw [show ([4] : List Nat).getD 2 0 = 0 from rfl]; exact h1)
  · have hk0 : rF = r0 := by
      rcases hcase with ⟨h1, h2⟩ | ⟨h1, h2, h3⟩ | ⟨h1, h2, h3⟩ | ⟨h1, h2, h3⟩
      · exact h2
      · exact absurd hc0 h1
      · exact absurd hc0 h1
      · exact absurd hc0 h1
    subst hk0
    refine W.widen (k := 1) (n := 6) (Nat.le_of_ble_eq_true rfl) (Nat.le_of_ble_eq_true rfl) ?_
    exact q_iret hC hR hr rfl rfl rfl dL_cupAt_5
def fL_lampAt (w : qMem) (a1 : Int32) : Option (Int32 × qMem) := qlw [4] [(-13)] (fX5_lampAt w a1)
theorem qhd_L_lampAt : yL_lampAt.cls ≠ "java/lang/invoke/MethodHandle" ∧ yL_lampAt.cls ≠ "java/lang/invoke/VarHandle" ∧ (parseMethodDescriptor yL_lampAt.desc).map (fun d => d.parameters.length) = some 2 := ⟨by decide +kernel, by decide +kernel, by decide +kernel⟩
set_option maxHeartbeats 4000000 in
set_option maxRecDepth 100000 in
theorem mL_lampAt {l : Launch} {D : va_G} {G : Nat → ClassId} {ad : Nat → Nat} (hJ : qInj ad) (hst : l.stackTraces = false) {w : qMem} {a1 : Int32} {rF : Int32} {wF : qMem} (hf : fL_lampAt w a1 = some (rF, wF)) : qHW l D G ad yL_lampAt cL_lampAt 3 [(0, 5, 6, 49)] 8 1 6 [.ref (ad 228), .int a1] w rF wF := by
  obtain ⟨cE, r0, h0, hcase⟩ := qlw_s hf
  refine q_startW rfl (by decide +kernel) hJ (Nat.le_of_ble_eq_true rfl) ?_
  intro p e s m args below meth c0 ls hC hr hT hN hR hl
  have hx := hC.1
  have hb := hC.2.1
  have hts := hC.2.2.2.2.1
  have hown := hC.2.2.2.1
  have hl : lv_has ls 3 [(0, .ref (ad 228)), (1, .int a1)] := hl
  refine lv_aload_n hx hb dL_lampAt_0 rfl (lv_at hl 0 rfl) ?_
  refine lv_iload_n hx hb dL_lampAt_1 rfl (lv_at hl 1 rfl) ?_
  refine qx_ki (As := [.int a1]) (rest := []) hC hR (mX5_lampAt hJ hst h0) (by decide) (qsh_228 G ad _) rfl qkl_812 qk_813 qk_814 qk_19 qk_815 qhd_X5_lampAt ⟨Nat.le_of_ble_eq_true rfl, Nat.le_of_ble_eq_true rfl⟩ hl.1 rfl (Nat.le_of_ble_eq_true rfl) dL_lampAt_2 ⟨Nat.le_of_ble_eq_true rfl, Nat.le_of_ble_eq_true rfl⟩ (fun hne H locs ce q9 hz hk hR hce hcv hcl => ?_) (fun hc0 H locs hz hk hR => ?_)
  · rcases hcase with ⟨h1, h2⟩ | ⟨h1, h2, h3⟩ | ⟨h1, h2, h3⟩ | ⟨h1, h2, h3⟩
    · exact absurd h1 hne
    · have hcl2 : s.vm.findClass "java/util/NoSuchElementException" = some ce.cls := by rw [h2] at hcl; exact hcl
      refine vx_catch (own := RL) (name := "java/util/NoSuchElementException") (E := "java/util/NoSuchElementException") hown [] ⟨0, 5, 6, 49⟩ [] hT (fun z hz => by cases hz) (by decide) (by decide) (hts _ qkl_548) (va_Nw.use (q_kp_tab (List.mem_filter.mp qkc_4).2) (hC.2.2.2.2.2.2.2.2.2.2.2.2 _ qkc_4)) hce hcv hcl2 ?_
      refine lv_astore_n (lv' := [(2, .ref q9), (0, .ref (ad 228)), (1, .int a1)]) hx hb dL_lampAt_6 rfl hl (by decide) rfl (fun ls hl => ?_)
      refine lv_bipush (v := (-13)) hx hb dL_lampAt_7 (by decide) ?_
      refine W.widen (k := 1) (n := 6) (Nat.le_of_ble_eq_true rfl) (Nat.le_of_ble_eq_true rfl) ?_
      exact q_iret hC hR hr rfl h3 rfl dL_lampAt_9
    · exact absurd h2 (by rw [show ([4] : List Nat).getD 1 0 = 0 from rfl]; exact h1)
    · exact absurd h2 (by rw [show ([4] : List Nat).getD 2 0 = 0 from rfl]; exact h1)
  · have hk0 : rF = r0 := by
      rcases hcase with ⟨h1, h2⟩ | ⟨h1, h2, h3⟩ | ⟨h1, h2, h3⟩ | ⟨h1, h2, h3⟩
      · exact h2
      · exact absurd hc0 h1
      · exact absurd hc0 h1
      · exact absurd hc0 h1
    subst hk0
    refine W.widen (k := 1) (n := 6) (Nat.le_of_ble_eq_true rfl) (Nat.le_of_ble_eq_true rfl) ?_
    exact q_iret hC hR hr rfl rfl rfl dL_lampAt_5
def fL_catAt (w : qMem) (a1 : Int32) : Option (Int32 × qMem) := qlw [4] [(-13)] (fX5_catAt w a1)
theorem qhd_L_catAt : yL_catAt.cls ≠ "java/lang/invoke/MethodHandle" ∧ yL_catAt.cls ≠ "java/lang/invoke/VarHandle" ∧ (parseMethodDescriptor yL_catAt.desc).map (fun d => d.parameters.length) = some 2 := ⟨by decide +kernel, by decide +kernel, by decide +kernel⟩
set_option maxHeartbeats 4000000 in
set_option maxRecDepth 100000 in
theorem mL_catAt {l : Launch} {D : va_G} {G : Nat → ClassId} {ad : Nat → Nat} (hJ : qInj ad) (hst : l.stackTraces = false) {w : qMem} {a1 : Int32} {rF : Int32} {wF : qMem} (hf : fL_catAt w a1 = some (rF, wF)) : qHW l D G ad yL_catAt cL_catAt 3 [(0, 5, 6, 49)] 8 1 6 [.ref (ad 228), .int a1] w rF wF := by
  obtain ⟨cE, r0, h0, hcase⟩ := qlw_s hf
  refine q_startW rfl (by decide +kernel) hJ (Nat.le_of_ble_eq_true rfl) ?_
  intro p e s m args below meth c0 ls hC hr hT hN hR hl
  have hx := hC.1
  have hb := hC.2.1
  have hts := hC.2.2.2.2.1
  have hown := hC.2.2.2.1
  have hl : lv_has ls 3 [(0, .ref (ad 228)), (1, .int a1)] := hl
  refine lv_aload_n hx hb dL_catAt_0 rfl (lv_at hl 0 rfl) ?_
  refine lv_iload_n hx hb dL_catAt_1 rfl (lv_at hl 1 rfl) ?_
  refine qx_ki (As := [.int a1]) (rest := []) hC hR (mX5_catAt hJ hst h0) (by decide) (qsh_228 G ad _) rfl qkl_819 qk_820 qk_821 qk_19 qk_822 qhd_X5_catAt ⟨Nat.le_of_ble_eq_true rfl, Nat.le_of_ble_eq_true rfl⟩ hl.1 rfl (Nat.le_of_ble_eq_true rfl) dL_catAt_2 ⟨Nat.le_of_ble_eq_true rfl, Nat.le_of_ble_eq_true rfl⟩ (fun hne H locs ce q9 hz hk hR hce hcv hcl => ?_) (fun hc0 H locs hz hk hR => ?_)
  · rcases hcase with ⟨h1, h2⟩ | ⟨h1, h2, h3⟩ | ⟨h1, h2, h3⟩ | ⟨h1, h2, h3⟩
    · exact absurd h1 hne
    · have hcl2 : s.vm.findClass "java/util/NoSuchElementException" = some ce.cls := by rw [h2] at hcl; exact hcl
      refine vx_catch (own := RL) (name := "java/util/NoSuchElementException") (E := "java/util/NoSuchElementException") hown [] ⟨0, 5, 6, 49⟩ [] hT (fun z hz => by cases hz) (by decide) (by decide) (hts _ qkl_548) (va_Nw.use (q_kp_tab (List.mem_filter.mp qkc_4).2) (hC.2.2.2.2.2.2.2.2.2.2.2.2 _ qkc_4)) hce hcv hcl2 ?_
      refine lv_astore_n (lv' := [(2, .ref q9), (0, .ref (ad 228)), (1, .int a1)]) hx hb dL_catAt_6 rfl hl (by decide) rfl (fun ls hl => ?_)
      refine lv_bipush (v := (-13)) hx hb dL_catAt_7 (by decide) ?_
      refine W.widen (k := 1) (n := 6) (Nat.le_of_ble_eq_true rfl) (Nat.le_of_ble_eq_true rfl) ?_
      exact q_iret hC hR hr rfl h3 rfl dL_catAt_9
    · exact absurd h2 (by rw [show ([4] : List Nat).getD 1 0 = 0 from rfl]; exact h1)
    · exact absurd h2 (by rw [show ([4] : List Nat).getD 2 0 = 0 from rfl]; exact h1)
  · have hk0 : rF = r0 := by
      rcases hcase with ⟨h1, h2⟩ | ⟨h1, h2, h3⟩ | ⟨h1, h2, h3⟩ | ⟨h1, h2, h3⟩
      · exact h2
      · exact absurd hc0 h1
      · exact absurd hc0 h1
      · exact absurd hc0 h1
    subst hk0
    refine W.widen (k := 1) (n := 6) (Nat.le_of_ble_eq_true rfl) (Nat.le_of_ble_eq_true rfl) ?_
    exact q_iret hC hR hr rfl rfl rfl dL_catAt_5
def fL_onFloor (w : qMem) (a1 : Int32) (a2 : Int32) : Option (Int32 × qMem) := qlw [1] [(-12)] (fX5_onFloor w a1 a2)
theorem qhd_L_onFloor : yL_onFloor.cls ≠ "java/lang/invoke/MethodHandle" ∧ yL_onFloor.cls ≠ "java/lang/invoke/VarHandle" ∧ (parseMethodDescriptor yL_onFloor.desc).map (fun d => d.parameters.length) = some 3 := ⟨by decide +kernel, by decide +kernel, by decide +kernel⟩
set_option maxHeartbeats 4000000 in
set_option maxRecDepth 100000 in
theorem mL_onFloor {l : Launch} {D : va_G} {G : Nat → ClassId} {ad : Nat → Nat} (hJ : qInj ad) (hst : l.stackTraces = false) {w : qMem} {a1 : Int32} {a2 : Int32} {rF : Int32} {wF : qMem} (hf : fL_onFloor w a1 a2 = some (rF, wF)) : qHW l D G ad yL_onFloor cL_onFloor 4 [(0, 6, 7, 14)] 7 1 6 [.ref (ad 228), .int a1, .int a2] w rF wF := by
  obtain ⟨cE, r0, h0, hcase⟩ := qlw_s hf
  refine q_startW rfl (by decide +kernel) hJ (Nat.le_of_ble_eq_true rfl) ?_
  intro p e s m args below meth c0 ls hC hr hT hN hR hl
  have hx := hC.1
  have hb := hC.2.1
  have hts := hC.2.2.2.2.1
  have hown := hC.2.2.2.1
  have hl : lv_has ls 4 [(0, .ref (ad 228)), (1, .int a1), (2, .int a2)] := hl
  refine lv_aload_n hx hb dL_onFloor_0 rfl (lv_at hl 0 rfl) ?_
  refine lv_iload_n hx hb dL_onFloor_1 rfl (lv_at hl 1 rfl) ?_
  refine lv_iload_n hx hb dL_onFloor_2 rfl (lv_at hl 2 rfl) ?_
  refine qx_ki (As := [.int a1, .int a2]) (rest := []) hC hR (mX5_onFloor hJ hst h0) (by decide) (qsh_228 G ad _) rfl qkl_833 qk_834 qk_835 qk_19 qk_836 qhd_X5_onFloor ⟨Nat.le_of_ble_eq_true rfl, Nat.le_of_ble_eq_true rfl⟩ hl.1 rfl (Nat.le_of_ble_eq_true rfl) dL_onFloor_3 ⟨Nat.le_of_ble_eq_true rfl, Nat.le_of_ble_eq_true rfl⟩ (fun hne H locs ce q9 hz hk hR hce hcv hcl => ?_) (fun hc0 H locs hz hk hR => ?_)
  · rcases hcase with ⟨h1, h2⟩ | ⟨h1, h2, h3⟩ | ⟨h1, h2, h3⟩ | ⟨h1, h2, h3⟩
    · exact absurd h1 hne
    · have hcl2 : s.vm.findClass "java/lang/IllegalArgumentException" = some ce.cls := by rw [h2] at hcl; exact hcl
      refine vx_catch (own := RL) (name := "java/lang/IllegalArgumentException") (E := "java/lang/IllegalArgumentException") hown [] ⟨0, 6, 7, 14⟩ [] hT (fun z hz => by cases hz) (by decide) (by decide) (hts _ qkl_267) (va_Nw.use (q_kp_tab (List.mem_filter.mp qkc_1).2) (hC.2.2.2.2.2.2.2.2.2.2.2.2 _ qkc_1)) hce hcv hcl2 ?_
      refine lv_astore_n (lv' := [(3, .ref q9), (0, .ref (ad 228)), (1, .int a1), (2, .int a2)]) hx hb dL_onFloor_7 rfl hl (by decide) rfl (fun ls hl => ?_)
      refine lv_bipush (v := (-12)) hx hb dL_onFloor_8 (by decide) ?_
      refine W.widen (k := 1) (n := 6) (Nat.le_of_ble_eq_true rfl) (Nat.le_of_ble_eq_true rfl) ?_
      exact q_iret hC hR hr rfl h3 rfl dL_onFloor_10
    · exact absurd h2 (by rw [show ([1] : List Nat).getD 1 0 = 0 from rfl]; exact h1)
    · exact absurd h2 (by rw [show ([1] : List Nat).getD 2 0 = 0 from rfl]; exact h1)
  · have hk0 : rF = r0 := by
      rcases hcase with ⟨h1, h2⟩ | ⟨h1, h2, h3⟩ | ⟨h1, h2, h3⟩ | ⟨h1, h2, h3⟩
      · exact h2
      · exact absurd hc0 h1
      · exact absurd hc0 h1
      · exact absurd hc0 h1
    subst hk0
    refine W.widen (k := 1) (n := 6) (Nat.le_of_ble_eq_true rfl) (Nat.le_of_ble_eq_true rfl) ?_
    exact q_iret hC hR hr rfl rfl rfl dL_onFloor_6
def fL_line (w : qMem) (a1 : Int32) : Option (Int32 × qMem) := qlw [3] [(-11)] (fX5_line w a1)
theorem qhd_L_line : yL_line.cls ≠ "java/lang/invoke/MethodHandle" ∧ yL_line.cls ≠ "java/lang/invoke/VarHandle" ∧ (parseMethodDescriptor yL_line.desc).map (fun d => d.parameters.length) = some 2 := ⟨by decide +kernel, by decide +kernel, by decide +kernel⟩
set_option maxHeartbeats 4000000 in
set_option maxRecDepth 100000 in
theorem mL_line {l : Launch} {D : va_G} {G : Nat → ClassId} {ad : Nat → Nat} (hJ : qInj ad) (hst : l.stackTraces = false) {w : qMem} {a1 : Int32} {rF : Int32} {wF : qMem} (hf : fL_line w a1 = some (rF, wF)) : qHW l D G ad yL_line cL_line 3 [(0, 5, 6, 28)] 8 1 6 [.ref (ad 228), .int a1] w rF wF := by
  obtain ⟨cE, r0, h0, hcase⟩ := qlw_s hf
  refine q_startW rfl (by decide +kernel) hJ (Nat.le_of_ble_eq_true rfl) ?_
  intro p e s m args below meth c0 ls hC hr hT hN hR hl
  have hx := hC.1
  have hb := hC.2.1
  have hts := hC.2.2.2.2.1
  have hown := hC.2.2.2.1
  have hl : lv_has ls 3 [(0, .ref (ad 228)), (1, .int a1)] := hl
  refine lv_aload_n hx hb dL_line_0 rfl (lv_at hl 0 rfl) ?_
  refine lv_iload_n hx hb dL_line_1 rfl (lv_at hl 1 rfl) ?_
  refine qx_ki (As := [.int a1]) (rest := []) hC hR (mX5_line hJ hst h0) (by decide) (qsh_228 G ad _) rfl qkl_1153 qk_1154 qk_1155 qk_19 qk_1156 qhd_X5_line ⟨Nat.le_of_ble_eq_true rfl, Nat.le_of_ble_eq_true rfl⟩ hl.1 rfl (Nat.le_of_ble_eq_true rfl) dL_line_2 ⟨Nat.le_of_ble_eq_true rfl, Nat.le_of_ble_eq_true rfl⟩ (fun hne H locs ce q9 hz hk hR hce hcv hcl => ?_) (fun hc0 H locs hz hk hR => ?_)
  · rcases hcase with ⟨h1, h2⟩ | ⟨h1, h2, h3⟩ | ⟨h1, h2, h3⟩ | ⟨h1, h2, h3⟩
    · exact absurd h1 hne
    · have hcl2 : s.vm.findClass "java/lang/IndexOutOfBoundsException" = some ce.cls := by rw [h2] at hcl; exact hcl
      refine vx_catch (own := RL) (name := "java/lang/IndexOutOfBoundsException") (E := "java/lang/IndexOutOfBoundsException") hown [] ⟨0, 5, 6, 28⟩ [] hT (fun z hz => by cases hz) (by decide) (by decide) (hts _ qkl_572) (va_Nw.use (q_kp_tab (List.mem_filter.mp qkc_3).2) (hC.2.2.2.2.2.2.2.2.2.2.2.2 _ qkc_3)) hce hcv hcl2 ?_
      refine lv_astore_n (lv' := [(2, .ref q9), (0, .ref (ad 228)), (1, .int a1)]) hx hb dL_line_6 rfl hl (by decide) rfl (fun ls hl => ?_)
      refine lv_bipush (v := (-11)) hx hb dL_line_7 (by decide) ?_
      refine W.widen (k := 1) (n := 6) (Nat.le_of_ble_eq_true rfl) (Nat.le_of_ble_eq_true rfl) ?_
      exact q_iret hC hR hr rfl h3 rfl dL_line_9
    · exact absurd h2 (by rw [show ([3] : List Nat).getD 1 0 = 0 from rfl]; exact h1)
    · exact absurd h2 (by rw [show ([3] : List Nat).getD 2 0 = 0 from rfl]; exact h1)
  · have hk0 : rF = r0 := by
      rcases hcase with ⟨h1, h2⟩ | ⟨h1, h2, h3⟩ | ⟨h1, h2, h3⟩ | ⟨h1, h2, h3⟩
      · exact h2
      · exact absurd hc0 h1
      · exact absurd hc0 h1
      · exact absurd hc0 h1
    subst hk0
    refine W.widen (k := 1) (n := 6) (Nat.le_of_ble_eq_true rfl) (Nat.le_of_ble_eq_true rfl) ?_
    exact q_iret hC hR hr rfl rfl rfl dL_line_5
def fL_character (w : qMem) (a1 : Int32) : Option (Int32 × qMem) := qlw [3] [(-11)] (fX5_character w a1)
theorem qhd_L_character : yL_character.cls ≠ "java/lang/invoke/MethodHandle" ∧ yL_character.cls ≠ "java/lang/invoke/VarHandle" ∧ (parseMethodDescriptor yL_character.desc).map (fun d => d.parameters.length) = some 2 := ⟨by decide +kernel, by decide +kernel, by decide +kernel⟩
set_option maxHeartbeats 4000000 in
set_option maxRecDepth 100000 in
theorem mL_character {l : Launch} {D : va_G} {G : Nat → ClassId} {ad : Nat → Nat} (hJ : qInj ad) (hst : l.stackTraces = false) {w : qMem} {a1 : Int32} {rF : Int32} {wF : qMem} (hf : fL_character w a1 = some (rF, wF)) : qHW l D G ad yL_character cL_character 3 [(0, 5, 6, 28)] 7 1 6 [.ref (ad 228), .int a1] w rF wF := by
  obtain ⟨cE, r0, h0, hcase⟩ := qlw_s hf
  refine q_startW rfl (by decide +kernel) hJ (Nat.le_of_ble_eq_true rfl) ?_
  intro p e s m args below meth c0 ls hC hr hT hN hR hl
  have hx := hC.1
  have hb := hC.2.1
  have hts := hC.2.2.2.2.1
  have hown := hC.2.2.2.1
  have hl : lv_has ls 3 [(0, .ref (ad 228)), (1, .int a1)] := hl
  refine lv_aload_n hx hb dL_character_0 rfl (lv_at hl 0 rfl) ?_
  refine lv_iload_n hx hb dL_character_1 rfl (lv_at hl 1 rfl) ?_
  refine qx_ki (As := [.int a1]) (rest := []) hC hR (mX5_character hJ hst h0) (by decide) (qsh_228 G ad _) rfl qkl_1176 qk_1177 qk_1178 qk_19 qk_1179 qhd_X5_character ⟨Nat.le_of_ble_eq_true rfl, Nat.le_of_ble_eq_true rfl⟩ hl.1 rfl (Nat.le_of_ble_eq_true rfl) dL_character_2 ⟨Nat.le_of_ble_eq_true rfl, Nat.le_of_ble_eq_true rfl⟩ (fun hne H locs ce q9 hz hk hR hce hcv hcl => ?_) (fun hc0 H locs hz hk hR => ?_)
  · rcases hcase with ⟨h1, h2⟩ | ⟨h1, h2, h3⟩ | ⟨h1, h2, h3⟩ | ⟨h1, h2, h3⟩
    · exact absurd h1 hne
    · have hcl2 : s.vm.findClass "java/lang/IndexOutOfBoundsException" = some ce.cls := by rw [h2] at hcl; exact hcl
      refine vx_catch (own := RL) (name := "java/lang/IndexOutOfBoundsException") (E := "java/lang/IndexOutOfBoundsException") hown [] ⟨0, 5, 6, 28⟩ [] hT (fun z hz => by cases hz) (by decide) (by decide) (hts _ qkl_572) (va_Nw.use (q_kp_tab (List.mem_filter.mp qkc_3).2) (hC.2.2.2.2.2.2.2.2.2.2.2.2 _ qkc_3)) hce hcv hcl2 ?_
      refine lv_astore_n (lv' := [(2, .ref q9), (0, .ref (ad 228)), (1, .int a1)]) hx hb dL_character_6 rfl hl (by decide) rfl (fun ls hl => ?_)
      refine lv_bipush (v := (-11)) hx hb dL_character_7 (by decide) ?_
      refine W.widen (k := 1) (n := 6) (Nat.le_of_ble_eq_true rfl) (Nat.le_of_ble_eq_true rfl) ?_
      exact q_iret hC hR hr rfl h3 rfl dL_character_9
    · exact absurd h2 (by rw [show ([3] : List Nat).getD 1 0 = 0 from rfl]; exact h1)
    · exact absurd h2 (by rw [show ([3] : List Nat).getD 2 0 = 0 from rfl]; exact h1)
  · have hk0 : rF = r0 := by
      rcases hcase with ⟨h1, h2⟩ | ⟨h1, h2, h3⟩ | ⟨h1, h2, h3⟩ | ⟨h1, h2, h3⟩
      · exact h2
      · exact absurd hc0 h1
      · exact absurd hc0 h1
      · exact absurd hc0 h1
    subst hk0
    refine W.widen (k := 1) (n := 6) (Nat.le_of_ble_eq_true rfl) (Nat.le_of_ble_eq_true rfl) ?_
    exact q_iret hC hR hr rfl rfl rfl dL_character_5
def fL_append (w : qMem) (a1 : Int32) : Option (Int32 × qMem) := qlw [5] [(-14)] (fX5_append w a1)
theorem qhd_L_append : yL_append.cls ≠ "java/lang/invoke/MethodHandle" ∧ yL_append.cls ≠ "java/lang/invoke/VarHandle" ∧ (parseMethodDescriptor yL_append.desc).map (fun d => d.parameters.length) = some 2 := ⟨by decide +kernel, by decide +kernel, by decide +kernel⟩
set_option maxHeartbeats 4000000 in
set_option maxRecDepth 100000 in
theorem mL_append {l : Launch} {D : va_G} {G : Nat → ClassId} {ad : Nat → Nat} (hJ : qInj ad) (hst : l.stackTraces = false) {w : qMem} {a1 : Int32} {rF : Int32} {wF : qMem} (hf : fL_append w a1 = some (rF, wF)) : qHW l D G ad yL_append cL_append 3 [(0, 5, 6, 95)] 7 1 6 [.ref (ad 228), .int a1] w rF wF := by
  obtain ⟨cE, r0, h0, hcase⟩ := qlw_s hf
  refine q_startW rfl (by decide +kernel) hJ (Nat.le_of_ble_eq_true rfl) ?_
  intro p e s m args below meth c0 ls hC hr hT hN hR hl
  have hx := hC.1
  have hb := hC.2.1
  have hts := hC.2.2.2.2.1
  have hown := hC.2.2.2.1
  have hl : lv_has ls 3 [(0, .ref (ad 228)), (1, .int a1)] := hl
  refine lv_aload_n hx hb dL_append_0 rfl (lv_at hl 0 rfl) ?_
  refine lv_iload_n hx hb dL_append_1 rfl (lv_at hl 1 rfl) ?_
  refine qx_ki (As := [.int a1]) (rest := []) hC hR (mX5_append hJ hst h0) (by decide) (qsh_228 G ad _) rfl qkl_1234 qk_1235 qk_1236 qk_19 qk_1237 qhd_X5_append ⟨Nat.le_of_ble_eq_true rfl, Nat.le_of_ble_eq_true rfl⟩ hl.1 rfl (Nat.le_of_ble_eq_true rfl) dL_append_2 ⟨Nat.le_of_ble_eq_true rfl, Nat.le_of_ble_eq_true rfl⟩ (fun hne H locs ce q9 hz hk hR hce hcv hcl => ?_) (fun hc0 H locs hz hk hR => ?_)
  · rcases hcase with ⟨h1, h2⟩ | ⟨h1, h2, h3⟩ | ⟨h1, h2, h3⟩ | ⟨h1, h2, h3⟩
    · exact absurd h1 hne
    · have hcl2 : s.vm.findClass "java/lang/IllegalStateException" = some ce.cls := by rw [h2] at hcl; exact hcl
      refine vx_catch (own := RL) (name := "java/lang/IllegalStateException") (E := "java/lang/IllegalStateException") hown [] ⟨0, 5, 6, 95⟩ [] hT (fun z hz => by cases hz) (by decide) (by decide) (hts _ qkl_1233) (va_Nw.use (q_kp_tab (List.mem_filter.mp qkc_5).2) (hC.2.2.2.2.2.2.2.2.2.2.2.2 _ qkc_5)) hce hcv hcl2 ?_
      refine lv_astore_n (lv' := [(2, .ref q9), (0, .ref (ad 228)), (1, .int a1)]) hx hb dL_append_6 rfl hl (by decide) rfl (fun ls hl => ?_)
      refine lv_bipush (v := (-14)) hx hb dL_append_7 (by decide) ?_
      refine W.widen (k := 1) (n := 6) (Nat.le_of_ble_eq_true rfl) (Nat.le_of_ble_eq_true rfl) ?_
      exact q_iret hC hR hr rfl h3 rfl dL_append_9
    · exact absurd h2 (by rw [show ([5] : List Nat).getD 1 0 = 0 from rfl]; exact h1)
    · exact absurd h2 (by rw [show ([5] : List Nat).getD 2 0 = 0 from rfl]; exact h1)
  · have hk0 : rF = r0 := by
      rcases hcase with ⟨h1, h2⟩ | ⟨h1, h2, h3⟩ | ⟨h1, h2, h3⟩ | ⟨h1, h2, h3⟩
      · exact h2
      · exact absurd hc0 h1
      · exact absurd hc0 h1
      · exact absurd hc0 h1
    subst hk0
    refine W.widen (k := 1) (n := 6) (Nat.le_of_ble_eq_true rfl) (Nat.le_of_ble_eq_true rfl) ?_
    exact q_iret hC hR hr rfl rfl rfl dL_append_5
def fL_runs (w : qMem)  : Option (Int32 × qMem) := qlw [1, 2] [(-1), (-2)] (fX5_run w)
theorem qhd_L_runs : yL_runs.cls ≠ "java/lang/invoke/MethodHandle" ∧ yL_runs.cls ≠ "java/lang/invoke/VarHandle" ∧ (parseMethodDescriptor yL_runs.desc).map (fun d => d.parameters.length) = some 1 := ⟨by decide +kernel, by decide +kernel, by decide +kernel⟩
set_option maxHeartbeats 4000000 in
set_option maxRecDepth 100000 in
theorem mL_runs {l : Launch} {D : va_G} {G : Nat → ClassId} {ad : Nat → Nat} (hJ : qInj ad) (hst : l.stackTraces = false) {w : qMem}  {rF : Int32} {wF : qMem} (hf : fL_runs w = some (rF, wF)) : qHW l D G ad yL_runs cL_runs 2 [(0, 4, 5, 14), (0, 4, 8, 16)] 10 1 6 [.ref (ad 228)] w rF wF := by
  obtain ⟨cE, r0, h0, hcase⟩ := qlw_s hf
  refine q_startW rfl (by decide +kernel) hJ (Nat.le_of_ble_eq_true rfl) ?_
  intro p e s m args below meth c0 ls hC hr hT hN hR hl
  have hx := hC.1
  have hb := hC.2.1
  have hts := hC.2.2.2.2.1
  have hown := hC.2.2.2.1
  have hl : lv_has ls 2 [(0, .ref (ad 228))] := hl
  refine lv_aload_n hx hb dL_runs_0 rfl (lv_at hl 0 rfl) ?_
  refine qx_ki (As := []) (rest := []) hC hR (mX5_run hJ hst h0) (by decide) (qsh_228 G ad _) rfl qkl_1262 qk_1263 qk_1264 qk_19 qk_1265 qhd_X5_run ⟨Nat.le_of_ble_eq_true rfl, Nat.le_of_ble_eq_true rfl⟩ hl.1 rfl (Nat.le_of_ble_eq_true rfl) dL_runs_1 ⟨Nat.le_of_ble_eq_true rfl, Nat.le_of_ble_eq_true rfl⟩ (fun hne H locs ce q9 hz hk hR hce hcv hcl => ?_) (fun hc0 H locs hz hk hR => ?_)
  · rcases hcase with ⟨h1, h2⟩ | ⟨h1, h2, h3⟩ | ⟨h1, h2, h3⟩ | ⟨h1, h2, h3⟩
    · exact absurd h1 hne
    · have hcl2 : s.vm.findClass "java/lang/IllegalArgumentException" = some ce.cls := by rw [h2] at hcl; exact hcl
      refine vx_catch (own := RL) (name := "java/lang/IllegalArgumentException") (E := "java/lang/IllegalArgumentException") hown [] ⟨0, 4, 5, 14⟩ [⟨0, 4, 8, 16⟩] hT (fun z hz => by cases hz) (by decide) (by decide) (hts _ qkl_267) (va_Nw.use (q_kp_tab (List.mem_filter.mp qkc_1).2) (hC.2.2.2.2.2.2.2.2.2.2.2.2 _ qkc_1)) hce hcv hcl2 ?_
      refine lv_astore_n (lv' := [(1, .ref q9), (0, .ref (ad 228))]) hx hb dL_runs_5 rfl hl (by decide) rfl (fun ls hl => ?_)
      refine lv_iconst (v := (-1)) hx hb dL_runs_6 (by decide) ?_
      refine W.widen (k := 1) (n := 6) (Nat.le_of_ble_eq_true rfl) (Nat.le_of_ble_eq_true rfl) ?_
      exact q_iret hC hR hr rfl h3 rfl dL_runs_7
    · have hcl2 : s.vm.findClass "java/lang/UnsupportedOperationException" = some ce.cls := by rw [h2] at hcl; exact hcl
      refine vx_catch (own := RL) (name := "java/lang/UnsupportedOperationException") (E := "java/lang/UnsupportedOperationException") hown [⟨0, 4, 5, 14⟩] ⟨0, 4, 8, 16⟩ [] hT (fun z hz => by
        simp only [List.mem_cons, List.mem_nil_iff, or_false] at hz
        rcases hz with rfl
        · exact Or.inr ⟨by decide, "java/lang/IllegalArgumentException", hts _ qkl_267, hN.1⟩) (by decide) (by decide) (hts _ qkl_268) (va_Nw.use (q_kp_tab (List.mem_filter.mp qkc_2).2) (hC.2.2.2.2.2.2.2.2.2.2.2.2 _ qkc_2)) hce hcv hcl2 ?_
      refine lv_astore_n (lv' := [(1, .ref q9), (0, .ref (ad 228))]) hx hb dL_runs_8 rfl hl (by decide) rfl (fun ls hl => ?_)
      refine lv_bipush (v := (-2)) hx hb dL_runs_9 (by decide) ?_
      refine W.widen (k := 1) (n := 6) (Nat.le_of_ble_eq_true rfl) (Nat.le_of_ble_eq_true rfl) ?_
      exact q_iret hC hR hr rfl h3 rfl dL_runs_11
    · exact absurd h2 (by rw [show ([1, 2] : List Nat).getD 2 0 = 0 from rfl]; exact h1)
  · have hk0 : rF = r0 := by
      rcases hcase with ⟨h1, h2⟩ | ⟨h1, h2, h3⟩ | ⟨h1, h2, h3⟩ | ⟨h1, h2, h3⟩
      · exact h2
      · exact absurd hc0 h1
      · exact absurd hc0 h1
      · exact absurd hc0 h1
    subst hk0
    refine W.widen (k := 1) (n := 6) (Nat.le_of_ble_eq_true rfl) (Nat.le_of_ble_eq_true rfl) ?_
    exact q_iret hC hR hr rfl rfl rfl dL_runs_4
def fL_refusal (w : qMem) (a1 : Int32) : Option (Int32 × qMem) := qlw [4] [(-101)] (fX5_refusal w a1)
theorem qhd_L_refusal : yL_refusal.cls ≠ "java/lang/invoke/MethodHandle" ∧ yL_refusal.cls ≠ "java/lang/invoke/VarHandle" ∧ (parseMethodDescriptor yL_refusal.desc).map (fun d => d.parameters.length) = some 2 := ⟨by decide +kernel, by decide +kernel, by decide +kernel⟩
set_option maxHeartbeats 4000000 in
set_option maxRecDepth 100000 in
theorem mL_refusal {l : Launch} {D : va_G} {G : Nat → ClassId} {ad : Nat → Nat} (hJ : qInj ad) (hst : l.stackTraces = false) {w : qMem} {a1 : Int32} {rF : Int32} {wF : qMem} (hf : fL_refusal w a1 = some (rF, wF)) : qHW l D G ad yL_refusal cL_refusal 3 [(0, 5, 6, 49)] 7 1 6 [.ref (ad 228), .int a1] w rF wF := by
  obtain ⟨cE, r0, h0, hcase⟩ := qlw_s hf
  refine q_startW rfl (by decide +kernel) hJ (Nat.le_of_ble_eq_true rfl) ?_
  intro p e s m args below meth c0 ls hC hr hT hN hR hl
  have hx := hC.1
  have hb := hC.2.1
  have hts := hC.2.2.2.2.1
  have hown := hC.2.2.2.1
  have hl : lv_has ls 3 [(0, .ref (ad 228)), (1, .int a1)] := hl
  refine lv_aload_n hx hb dL_refusal_0 rfl (lv_at hl 0 rfl) ?_
  refine lv_iload_n hx hb dL_refusal_1 rfl (lv_at hl 1 rfl) ?_
  refine qx_ki (As := [.int a1]) (rest := []) hC hR (mX5_refusal hJ hst h0) (by decide) (qsh_228 G ad _) rfl qkl_549 qk_550 qk_551 qk_19 qk_552 qhd_X5_refusal ⟨Nat.le_of_ble_eq_true rfl, Nat.le_of_ble_eq_true rfl⟩ hl.1 rfl (Nat.le_of_ble_eq_true rfl) dL_refusal_2 ⟨Nat.le_of_ble_eq_true rfl, Nat.le_of_ble_eq_true rfl⟩ (fun hne H locs ce q9 hz hk hR hce hcv hcl => ?_) (fun hc0 H locs hz hk hR => ?_)
  · rcases hcase with ⟨h1, h2⟩ | ⟨h1, h2, h3⟩ | ⟨h1, h2, h3⟩ | ⟨h1, h2, h3⟩
    · exact absurd h1 hne
    · have hcl2 : s.vm.findClass "java/util/NoSuchElementException" = some ce.cls := by rw [h2] at hcl; exact hcl
      refine vx_catch (own := RL) (name := "java/util/NoSuchElementException") (E := "java/util/NoSuchElementException") hown [] ⟨0, 5, 6, 49⟩ [] hT (fun z hz => by cases hz) (by decide) (by decide) (hts _ qkl_548) (va_Nw.use (q_kp_tab (List.mem_filter.mp qkc_4).2) (hC.2.2.2.2.2.2.2.2.2.2.2.2 _ qkc_4)) hce hcv hcl2 ?_
      refine lv_astore_n (lv' := [(2, .ref q9), (0, .ref (ad 228)), (1, .int a1)]) hx hb dL_refusal_6 rfl hl (by decide) rfl (fun ls hl => ?_)
      refine lv_bipush (v := (-101)) hx hb dL_refusal_7 (by decide) ?_
      refine W.widen (k := 1) (n := 6) (Nat.le_of_ble_eq_true rfl) (Nat.le_of_ble_eq_true rfl) ?_
      exact q_iret hC hR hr rfl h3 rfl dL_refusal_9
    · exact absurd h2 (by rw [show ([4] : List Nat).getD 1 0 = 0 from rfl]; exact h1)
    · exact absurd h2 (by rw [show ([4] : List Nat).getD 2 0 = 0 from rfl]; exact h1)
  · have hk0 : rF = r0 := by
      rcases hcase with ⟨h1, h2⟩ | ⟨h1, h2, h3⟩ | ⟨h1, h2, h3⟩ | ⟨h1, h2, h3⟩
      · exact h2
      · exact absurd hc0 h1
      · exact absurd hc0 h1
      · exact absurd hc0 h1
    subst hk0
    refine W.widen (k := 1) (n := 6) (Nat.le_of_ble_eq_true rfl) (Nat.le_of_ble_eq_true rfl) ?_
    exact q_iret hC hR hr rfl rfl rfl dL_refusal_5
def fL_undo (w : qMem)  : Option (Int32 × qMem) := qlw [5] [(-1)] (fX5_undo w)
theorem qhd_L_undo : yL_undo.cls ≠ "java/lang/invoke/MethodHandle" ∧ yL_undo.cls ≠ "java/lang/invoke/VarHandle" ∧ (parseMethodDescriptor yL_undo.desc).map (fun d => d.parameters.length) = some 1 := ⟨by decide +kernel, by decide +kernel, by decide +kernel⟩
set_option maxHeartbeats 4000000 in
set_option maxRecDepth 100000 in
theorem mL_undo {l : Launch} {D : va_G} {G : Nat → ClassId} {ad : Nat → Nat} (hJ : qInj ad) (hst : l.stackTraces = false) {w : qMem}  {rF : Int32} {wF : qMem} (hf : fL_undo w = some (rF, wF)) : qHW l D G ad yL_undo cL_undo 2 [(0, 4, 5, 95)] 7 1 6 [.ref (ad 228)] w rF wF := by
  obtain ⟨cE, r0, h0, hcase⟩ := qlw_s hf
  refine q_startW rfl (by decide +kernel) hJ (Nat.le_of_ble_eq_true rfl) ?_
  intro p e s m args below meth c0 ls hC hr hT hN hR hl
  have hx := hC.1
  have hb := hC.2.1
  have hts := hC.2.2.2.2.1
  have hown := hC.2.2.2.1
  have hl : lv_has ls 2 [(0, .ref (ad 228))] := hl
  refine lv_aload_n hx hb dL_undo_0 rfl (lv_at hl 0 rfl) ?_
  refine qx_ki (As := []) (rest := []) hC hR (mX5_undo hJ hst h0) (by decide) (qsh_228 G ad _) rfl qkl_1335 qk_1336 qk_1337 qk_19 qk_1338 qhd_X5_undo ⟨Nat.le_of_ble_eq_true rfl, Nat.le_of_ble_eq_true rfl⟩ hl.1 rfl (Nat.le_of_ble_eq_true rfl) dL_undo_1 ⟨Nat.le_of_ble_eq_true rfl, Nat.le_of_ble_eq_true rfl⟩ (fun hne H locs ce q9 hz hk hR hce hcv hcl => ?_) (fun hc0 H locs hz hk hR => ?_)
  · rcases hcase with ⟨h1, h2⟩ | ⟨h1, h2, h3⟩ | ⟨h1, h2, h3⟩ | ⟨h1, h2, h3⟩
    · exact absurd h1 hne
    · have hcl2 : s.vm.findClass "java/lang/IllegalStateException" = some ce.cls := by rw [h2] at hcl; exact hcl
      refine vx_catch (own := RL) (name := "java/lang/IllegalStateException") (E := "java/lang/IllegalStateException") hown [] ⟨0, 4, 5, 95⟩ [] hT (fun z hz => by cases hz) (by decide) (by decide) (hts _ qkl_1233) (va_Nw.use (q_kp_tab (List.mem_filter.mp qkc_5).2) (hC.2.2.2.2.2.2.2.2.2.2.2.2 _ qkc_5)) hce hcv hcl2 ?_
      refine lv_astore_n (lv' := [(1, .ref q9), (0, .ref (ad 228))]) hx hb dL_undo_5 rfl hl (by decide) rfl (fun ls hl => ?_)
      refine lv_iconst (v := (-1)) hx hb dL_undo_6 (by decide) ?_
      refine W.widen (k := 1) (n := 6) (Nat.le_of_ble_eq_true rfl) (Nat.le_of_ble_eq_true rfl) ?_
      exact q_iret hC hR hr rfl h3 rfl dL_undo_7
    · exact absurd h2 (by rw [show ([5] : List Nat).getD 1 0 = 0 from rfl]; exact h1)
    · exact absurd h2 (by rw [show ([5] : List Nat).getD 2 0 = 0 from rfl]; exact h1)
  · have hk0 : rF = r0 := by
      rcases hcase with ⟨h1, h2⟩ | ⟨h1, h2, h3⟩ | ⟨h1, h2, h3⟩ | ⟨h1, h2, h3⟩
      · exact h2
      · exact absurd hc0 h1
      · exact absurd hc0 h1
      · exact absurd hc0 h1
    subst hk0
    refine W.widen (k := 1) (n := 6) (Nat.le_of_ble_eq_true rfl) (Nat.le_of_ble_eq_true rfl) ?_
    exact q_iret hC hR hr rfl rfl rfl dL_undo_4
