def qPW3 (h0 : Nat) (W : va_W) : Prop := W = [(h0, .inr (6, z7))]
set_option maxHeartbeats 4000000 in
set_option maxRecDepth 100000 in
theorem mX3_init {l : Launch} {D : va_G} {G : Nat → ClassId} {h0 : Nat} : qMk l D G yX3_init cX3_init 1 2 0 0 h0 6 [.int 0, .int 0, .int 0, .int 0, .int 0, .int 0, .int 0] (qPW3 h0) := by
  refine q_startC RX3 rfl (by decide +kernel) rfl (Nat.le_of_ble_eq_true rfl) ?_
  intro p e s m args below meth c0 ls hC hr hP hl
  have hx := hC.1
  have hb := hC.2.1
  have hown := hC.2.2.2.1
  have hts := hC.2.2.2.2.1
  have hK := hC.2.2.2.2.2.2.1.1
  have hA : ∀ q : Nat, s.heap.size ≤ q → qone h0 s.heap.size q := fun q h => Or.inr h
  have hS : va_S (qone h0 s.heap.size) s.heap s.heap [] := va_S.rf
  have hD : va_D (qone h0 s.heap.size) [(h0, .inr (6, [.int 0, .int 0, .int 0, .int 0, .int 0, .int 0, .int 0]))] := qone_D1
  have hl : lv_has ls 1 [(0, .ref h0)] := hl
  refine lv_aload_n hx hb dX3_init_0 rfl (lv_at hl 0 rfl) ?_
  refine W.objInit hx hb hown (hts _ qkn_70) (hts _ qjs_oi) (hts _ qjs_oc) rfl (by rw [hC.2.2.1]; exact hl.1) rfl dX3_init_1 (Nat.le_of_ble_eq_true rfl) (Nat.le_of_ble_eq_true rfl) ?_
  refine lv_aload_n hx hb dX3_init_4 rfl (lv_at hl 0 rfl) ?_
  refine lv_iconst (v := 0) hx hb dX3_init_5 (by decide) ?_
  refine va_put (D := D) (ci := 6) (v := .int 0) (ty := .int) (C := RX3) (T := TX3) (N := 7) hx hb hts qin_X3 tyX3 tyX3_ok nmX3 hown hK hP hD hS 0 rfl rfl 0 (by decide) (hts _ qkn_71) (fun _ h9 => h9) rfl (by decide +kernel) rfl rfl (Nat.le_of_ble_eq_true rfl) dX3_init_6 (fun H locs hP hD hS => ?_)
  have hP : va_P D vwCl ([(h0, .inr (6, [.int 0, .int 0, .int 0, .int 0, .int 0, .int 0, .int 0]))]) H := hP
  have hD : va_D (qone h0 s.heap.size) ([(h0, .inr (6, [.int 0, .int 0, .int 0, .int 0, .int 0, .int 0, .int 0]))]) := hD
  refine lv_aload_n hx hb dX3_init_9 rfl (lv_at hl 0 rfl) ?_
  refine lv_iconst (v := 0) hx hb dX3_init_10 (by decide) ?_
  refine va_put (D := D) (ci := 6) (v := .int 0) (ty := .int) (C := RX3) (T := TX3) (N := 7) hx hb hts qin_X3 tyX3 tyX3_ok nmX3 hown hK hP hD hS 0 rfl rfl 1 (by decide) (hts _ qkn_75) (fun _ h9 => h9) rfl (by decide +kernel) rfl rfl (Nat.le_of_ble_eq_true rfl) dX3_init_11 (fun H locs hP hD hS => ?_)
  have hP : va_P D vwCl ([(h0, .inr (6, [.int 0, .int 0, .int 0, .int 0, .int 0, .int 0, .int 0]))]) H := hP
  have hD : va_D (qone h0 s.heap.size) ([(h0, .inr (6, [.int 0, .int 0, .int 0, .int 0, .int 0, .int 0, .int 0]))]) := hD
  refine lv_aload_n hx hb dX3_init_14 rfl (lv_at hl 0 rfl) ?_
  refine lv_iconst (v := 0) hx hb dX3_init_15 (by decide) ?_
  refine va_put (D := D) (ci := 6) (v := .int 0) (ty := .int) (C := RX3) (T := TX3) (N := 7) hx hb hts qin_X3 tyX3 tyX3_ok nmX3 hown hK hP hD hS 0 rfl rfl 2 (by decide) (hts _ qkn_79) (fun _ h9 => h9) rfl (by decide +kernel) rfl rfl (Nat.le_of_ble_eq_true rfl) dX3_init_16 (fun H locs hP hD hS => ?_)
  have hP : va_P D vwCl ([(h0, .inr (6, [.int 0, .int 0, .int 0, .int 0, .int 0, .int 0, .int 0]))]) H := hP
  have hD : va_D (qone h0 s.heap.size) ([(h0, .inr (6, [.int 0, .int 0, .int 0, .int 0, .int 0, .int 0, .int 0]))]) := hD
  refine lv_aload_n hx hb dX3_init_19 rfl (lv_at hl 0 rfl) ?_
  refine lv_iconst (v := 0) hx hb dX3_init_20 (by decide) ?_
  refine va_put (D := D) (ci := 6) (v := .int 0) (ty := .int) (C := RX3) (T := TX3) (N := 7) hx hb hts qin_X3 tyX3 tyX3_ok nmX3 hown hK hP hD hS 0 rfl rfl 3 (by decide) (hts _ qkn_83) (fun _ h9 => h9) rfl (by decide +kernel) rfl rfl (Nat.le_of_ble_eq_true rfl) dX3_init_21 (fun H locs hP hD hS => ?_)
  have hP : va_P D vwCl ([(h0, .inr (6, [.int 0, .int 0, .int 0, .int 0, .int 0, .int 0, .int 0]))]) H := hP
  have hD : va_D (qone h0 s.heap.size) ([(h0, .inr (6, [.int 0, .int 0, .int 0, .int 0, .int 0, .int 0, .int 0]))]) := hD
  refine lv_aload_n hx hb dX3_init_24 rfl (lv_at hl 0 rfl) ?_
  refine lv_iconst (v := 0) hx hb dX3_init_25 (by decide) ?_
  refine va_put (D := D) (ci := 6) (v := .int 0) (ty := .boolean) (C := RX3) (T := TX3) (N := 7) hx hb hts qin_X3 tyX3 tyX3_ok nmX3 hown hK hP hD hS 0 rfl rfl 4 (by decide) (hts _ qkn_87) (fun _ h9 => h9) rfl (by decide +kernel) rfl rfl (Nat.le_of_ble_eq_true rfl) dX3_init_26 (fun H locs hP hD hS => ?_)
  have hP : va_P D vwCl ([(h0, .inr (6, [.int 0, .int 0, .int 0, .int 0, .int 0, .int 0, .int 0]))]) H := hP
  have hD : va_D (qone h0 s.heap.size) ([(h0, .inr (6, [.int 0, .int 0, .int 0, .int 0, .int 0, .int 0, .int 0]))]) := hD
  refine lv_aload_n hx hb dX3_init_29 rfl (lv_at hl 0 rfl) ?_
  refine lv_iconst (v := 0) hx hb dX3_init_30 (by decide) ?_
  refine va_put (D := D) (ci := 6) (v := .int 0) (ty := .int) (C := RX3) (T := TX3) (N := 7) hx hb hts qin_X3 tyX3 tyX3_ok nmX3 hown hK hP hD hS 0 rfl rfl 5 (by decide) (hts _ qkn_91) (fun _ h9 => h9) rfl (by decide +kernel) rfl rfl (Nat.le_of_ble_eq_true rfl) dX3_init_31 (fun H locs hP hD hS => ?_)
  have hP : va_P D vwCl ([(h0, .inr (6, [.int 0, .int 0, .int 0, .int 0, .int 0, .int 0, .int 0]))]) H := hP
  have hD : va_D (qone h0 s.heap.size) ([(h0, .inr (6, [.int 0, .int 0, .int 0, .int 0, .int 0, .int 0, .int 0]))]) := hD
  refine lv_aload_n hx hb dX3_init_34 rfl (lv_at hl 0 rfl) ?_
  refine lv_iconst (v := 0) hx hb dX3_init_35 (by decide) ?_
  refine va_put (D := D) (ci := 6) (v := .int 0) (ty := .int) (C := RX3) (T := TX3) (N := 7) hx hb hts qin_X3 tyX3 tyX3_ok nmX3 hown hK hP hD hS 0 rfl rfl 6 (by decide) (hts _ qkn_94) (fun _ h9 => h9) rfl (by decide +kernel) rfl rfl (Nat.le_of_ble_eq_true rfl) dX3_init_36 (fun H locs hP hD hS => ?_)
  have hP : va_P D vwCl ([(h0, .inr (6, [.int 0, .int 0, .int 0, .int 0, .int 0, .int 0, .int 0]))]) H := hP
  have hD : va_D (qone h0 s.heap.size) ([(h0, .inr (6, [.int 0, .int 0, .int 0, .int 0, .int 0, .int 0, .int 0]))]) := hD
  exact q_cret hC hr (W0 := [(h0, .inr (6, [.int 0, .int 0, .int 0, .int 0, .int 0, .int 0, .int 0]))]) rfl hP hD hS (Nat.le_of_ble_eq_true rfl) (Nat.le_of_ble_eq_true rfl) dX3_init_39
def qPW2 (G : Nat → ClassId) (h0 : Nat) (W : va_W) : Prop := ∃ q1 : Nat, W = [(h0, .inr (5, [.ref q1, .int 0]))] ++ [(q1, .inl (G 2, 16, .inl (fun _ => 0)))]
set_option maxHeartbeats 4000000 in
set_option maxRecDepth 100000 in
theorem mX2_init {l : Launch} {D : va_G} {G : Nat → ClassId} {h0 : Nat} : qMk l D G yX2_init cX2_init 1 2 1 16 h0 5 [.null, .int 0] (qPW2 G h0) := by
  refine q_startC RX2 rfl (by decide +kernel) rfl (Nat.le_of_ble_eq_true rfl) ?_
  intro p e s m args below meth c0 ls hC hr hP hl
  have hx := hC.1
  have hb := hC.2.1
  have hown := hC.2.2.2.1
  have hts := hC.2.2.2.2.1
  have hK := hC.2.2.2.2.2.2.1.1
  have hA : ∀ q : Nat, s.heap.size ≤ q → qone h0 s.heap.size q := fun q h => Or.inr h
  have hS : va_S (qone h0 s.heap.size) s.heap s.heap [] := va_S.rf
  have hD : va_D (qone h0 s.heap.size) [(h0, .inr (5, [.null, .int 0]))] := qone_D1
  have hl : lv_has ls 1 [(0, .ref h0)] := hl
  refine lv_aload_n hx hb dX2_init_0 rfl (lv_at hl 0 rfl) ?_
  refine W.objInit hx hb hown (hts _ qkn_217) (hts _ qjs_oi) (hts _ qjs_oc) rfl (by rw [hC.2.2.1]; exact hl.1) rfl dX2_init_1 (Nat.le_of_ble_eq_true rfl) (Nat.le_of_ble_eq_true rfl) ?_
  refine lv_aload_n hx hb dX2_init_4 rfl (lv_at hl 0 rfl) ?_
  refine lv_bipush (v := 16) hx hb dX2_init_5 (by decide) ?_
  refine va_newa (atype := .char) (ty := .char) (N' := 16) (a0 := (16, .inl (fun _ => 0))) hx hb (hts _ qja_char) rfl hK hP hD hS hA (fun _ => rfl) (by decide) (by decide) (Nat.le_of_ble_eq_true rfl) (Nat.le_of_ble_eq_true rfl) (Nat.le_of_ble_eq_true rfl) dX2_init_7 (fun q1 cA H hK2 hP hD hS => ?_)
  obtain rfl := qsame_arr hK2 (t := 2) rfl
  have hP : va_P D vwCl ([(h0, .inr (5, [.null, .int 0]))] ++ [(q1, .inl (G 2, 16, .inl (fun _ => 0)))]) H := hP
  have hD : va_D (qone h0 s.heap.size) ([(h0, .inr (5, [.null, .int 0]))] ++ [(q1, .inl (G 2, 16, .inl (fun _ => 0)))]) := hD
  refine va_putF (D := D) (ci := 5) (v := .ref q1) (ty := .array .char) (C := RX2) (T := TX2) (N := 2) hx hb hts qin_X2 tyX2 tyX2_ok nmX2 hown hK hP hD hS 0 rfl rfl 0 (by decide) (hts _ qkn_218) (fun _ h9 => h9) rfl hC.2.2.2.2.2.2.2 rfl (by decide +kernel) rfl rfl (Nat.le_of_ble_eq_true rfl) dX2_init_9 (fun H locs hP hD hS => ?_)
  have hP : va_P D vwCl ([(h0, .inr (5, [.ref q1, .int 0]))] ++ [(q1, .inl (G 2, 16, .inl (fun _ => 0)))]) H := hP
  have hD : va_D (qone h0 s.heap.size) ([(h0, .inr (5, [.ref q1, .int 0]))] ++ [(q1, .inl (G 2, 16, .inl (fun _ => 0)))]) := hD
  refine lv_aload_n hx hb dX2_init_12 rfl (lv_at hl 0 rfl) ?_
  refine lv_iconst (v := 0) hx hb dX2_init_13 (by decide) ?_
  refine va_put (D := D) (ci := 5) (v := .int 0) (ty := .int) (C := RX2) (T := TX2) (N := 2) hx hb hts qin_X2 tyX2 tyX2_ok nmX2 hown hK hP hD hS 0 rfl rfl 1 (by decide) (hts _ qkn_219) (fun _ h9 => h9) rfl (by decide +kernel) rfl rfl (Nat.le_of_ble_eq_true rfl) dX2_init_14 (fun H locs hP hD hS => ?_)
  have hP : va_P D vwCl ([(h0, .inr (5, [.ref q1, .int 0]))] ++ [(q1, .inl (G 2, 16, .inl (fun _ => 0)))]) H := hP
  have hD : va_D (qone h0 s.heap.size) ([(h0, .inr (5, [.ref q1, .int 0]))] ++ [(q1, .inl (G 2, 16, .inl (fun _ => 0)))]) := hD
  exact q_cret hC hr (W0 := [(h0, .inr (5, [.ref q1, .int 0]))] ++ [(q1, .inl (G 2, 16, .inl (fun _ => 0)))]) ⟨q1, rfl⟩ hP hD hS (Nat.le_of_ble_eq_true rfl) (Nat.le_of_ble_eq_true rfl) dX2_init_17
def qPW4 (G : Nat → ClassId) (h0 : Nat) (W : va_W) : Prop := ∃ q1 q2 q3 q4 : Nat, W = [(h0, .inr (7, [.ref q1, .int 0, .ref q2, .ref q3, .ref q4, .int 0, .int 0]))] ++ [(q1, .inl (G 2, 60, .inl (fun _ => 0)))] ++ [(q2, .inl (G 0, 12, .inl (fun _ => 0)))] ++ [(q3, .inl (G 0, 12, .inl (fun _ => 0)))] ++ [(q4, .inl (G 0, 12, .inl (fun _ => 0)))]
set_option maxHeartbeats 4000000 in
set_option maxRecDepth 100000 in
theorem mX4_init {l : Launch} {D : va_G} {G : Nat → ClassId} {h0 : Nat} : qMk l D G yX4_init cX4_init 1 2 4 96 h0 7 [.null, .int 0, .null, .null, .null, .int 0, .int 0] (qPW4 G h0) := by
  refine q_startC RX4 rfl (by decide +kernel) rfl (Nat.le_of_ble_eq_true rfl) ?_
  intro p e s m args below meth c0 ls hC hr hP hl
  have hx := hC.1
  have hb := hC.2.1
  have hown := hC.2.2.2.1
  have hts := hC.2.2.2.2.1
  have hK := hC.2.2.2.2.2.2.1.1
  have hA : ∀ q : Nat, s.heap.size ≤ q → qone h0 s.heap.size q := fun q h => Or.inr h
  have hS : va_S (qone h0 s.heap.size) s.heap s.heap [] := va_S.rf
  have hD : va_D (qone h0 s.heap.size) [(h0, .inr (7, [.null, .int 0, .null, .null, .null, .int 0, .int 0]))] := qone_D1
  have hl : lv_has ls 1 [(0, .ref h0)] := hl
  refine lv_aload_n hx hb dX4_init_0 rfl (lv_at hl 0 rfl) ?_
  refine W.objInit hx hb hown (hts _ qkn_186) (hts _ qjs_oi) (hts _ qjs_oc) rfl (by rw [hC.2.2.1]; exact hl.1) rfl dX4_init_1 (Nat.le_of_ble_eq_true rfl) (Nat.le_of_ble_eq_true rfl) ?_
  refine lv_aload_n hx hb dX4_init_4 rfl (lv_at hl 0 rfl) ?_
  refine lv_bipush (v := 60) hx hb dX4_init_5 (by decide) ?_
  refine va_newa (atype := .char) (ty := .char) (N' := 60) (a0 := (60, .inl (fun _ => 0))) hx hb (hts _ qja_char) rfl hK hP hD hS hA (fun _ => rfl) (by decide) (by decide) (Nat.le_of_ble_eq_true rfl) (Nat.le_of_ble_eq_true rfl) (Nat.le_of_ble_eq_true rfl) dX4_init_7 (fun q1 cA H hK2 hP hD hS => ?_)
  obtain rfl := qsame_arr hK2 (t := 2) rfl
  have hP : va_P D vwCl ([(h0, .inr (7, [.null, .int 0, .null, .null, .null, .int 0, .int 0]))] ++ [(q1, .inl (G 2, 60, .inl (fun _ => 0)))]) H := hP
  have hD : va_D (qone h0 s.heap.size) ([(h0, .inr (7, [.null, .int 0, .null, .null, .null, .int 0, .int 0]))] ++ [(q1, .inl (G 2, 60, .inl (fun _ => 0)))]) := hD
  refine va_putF (D := D) (ci := 7) (v := .ref q1) (ty := .array .char) (C := RX4) (T := TX4) (N := 7) hx hb hts qin_X4 tyX4 tyX4_ok nmX4 hown hK hP hD hS 0 rfl rfl 0 (by decide) (hts _ qkn_187) (fun _ h9 => h9) rfl hC.2.2.2.2.2.2.2 rfl (by decide +kernel) rfl rfl (Nat.le_of_ble_eq_true rfl) dX4_init_9 (fun H locs hP hD hS => ?_)
  have hP : va_P D vwCl ([(h0, .inr (7, [.ref q1, .int 0, .null, .null, .null, .int 0, .int 0]))] ++ [(q1, .inl (G 2, 60, .inl (fun _ => 0)))]) H := hP
  have hD : va_D (qone h0 s.heap.size) ([(h0, .inr (7, [.ref q1, .int 0, .null, .null, .null, .int 0, .int 0]))] ++ [(q1, .inl (G 2, 60, .inl (fun _ => 0)))]) := hD
  refine lv_aload_n hx hb dX4_init_12 rfl (lv_at hl 0 rfl) ?_
  refine lv_iconst (v := 0) hx hb dX4_init_13 (by decide) ?_
  refine va_put (D := D) (ci := 7) (v := .int 0) (ty := .int) (C := RX4) (T := TX4) (N := 7) hx hb hts qin_X4 tyX4 tyX4_ok nmX4 hown hK hP hD hS 0 rfl rfl 1 (by decide) (hts _ qkn_188) (fun _ h9 => h9) rfl (by decide +kernel) rfl rfl (Nat.le_of_ble_eq_true rfl) dX4_init_14 (fun H locs hP hD hS => ?_)
  have hP : va_P D vwCl ([(h0, .inr (7, [.ref q1, .int 0, .null, .null, .null, .int 0, .int 0]))] ++ [(q1, .inl (G 2, 60, .inl (fun _ => 0)))]) H := hP
  have hD : va_D (qone h0 s.heap.size) ([(h0, .inr (7, [.ref q1, .int 0, .null, .null, .null, .int 0, .int 0]))] ++ [(q1, .inl (G 2, 60, .inl (fun _ => 0)))]) := hD
  refine lv_aload_n hx hb dX4_init_17 rfl (lv_at hl 0 rfl) ?_
  refine lv_bipush (v := 12) hx hb dX4_init_18 (by decide) ?_
  refine va_newa (atype := .int) (ty := .int) (N' := 12) (a0 := (12, .inl (fun _ => 0))) hx hb (hts _ qja_int) rfl hK hP hD hS hA (fun _ => rfl) (by decide) (by decide) (Nat.le_of_ble_eq_true rfl) (Nat.le_of_ble_eq_true rfl) (Nat.le_of_ble_eq_true rfl) dX4_init_20 (fun q2 cA H hK2 hP hD hS => ?_)
  obtain rfl := qsame_arr hK2 (t := 0) rfl
  have hP : va_P D vwCl ([(h0, .inr (7, [.ref q1, .int 0, .null, .null, .null, .int 0, .int 0]))] ++ [(q1, .inl (G 2, 60, .inl (fun _ => 0)))] ++ [(q2, .inl (G 0, 12, .inl (fun _ => 0)))]) H := hP
  have hD : va_D (qone h0 s.heap.size) ([(h0, .inr (7, [.ref q1, .int 0, .null, .null, .null, .int 0, .int 0]))] ++ [(q1, .inl (G 2, 60, .inl (fun _ => 0)))] ++ [(q2, .inl (G 0, 12, .inl (fun _ => 0)))]) := hD
  refine va_putF (D := D) (ci := 7) (v := .ref q2) (ty := .array .int) (C := RX4) (T := TX4) (N := 7) hx hb hts qin_X4 tyX4 tyX4_ok nmX4 hown hK hP hD hS 0 rfl rfl 2 (by decide) (hts _ qkn_190) (fun _ h9 => h9) rfl hC.2.2.2.2.2.2.2 rfl (by decide +kernel) rfl rfl (Nat.le_of_ble_eq_true rfl) dX4_init_22 (fun H locs hP hD hS => ?_)
  have hP : va_P D vwCl ([(h0, .inr (7, [.ref q1, .int 0, .ref q2, .null, .null, .int 0, .int 0]))] ++ [(q1, .inl (G 2, 60, .inl (fun _ => 0)))] ++ [(q2, .inl (G 0, 12, .inl (fun _ => 0)))]) H := hP
  have hD : va_D (qone h0 s.heap.size) ([(h0, .inr (7, [.ref q1, .int 0, .ref q2, .null, .null, .int 0, .int 0]))] ++ [(q1, .inl (G 2, 60, .inl (fun _ => 0)))] ++ [(q2, .inl (G 0, 12, .inl (fun _ => 0)))]) := hD
  refine lv_aload_n hx hb dX4_init_25 rfl (lv_at hl 0 rfl) ?_
  refine lv_bipush (v := 12) hx hb dX4_init_26 (by decide) ?_
  refine va_newa (atype := .int) (ty := .int) (N' := 12) (a0 := (12, .inl (fun _ => 0))) hx hb (hts _ qja_int) rfl hK hP hD hS hA (fun _ => rfl) (by decide) (by decide) (Nat.le_of_ble_eq_true rfl) (Nat.le_of_ble_eq_true rfl) (Nat.le_of_ble_eq_true rfl) dX4_init_28 (fun q3 cA H hK2 hP hD hS => ?_)
  obtain rfl := qsame_arr hK2 (t := 0) rfl
  have hP : va_P D vwCl ([(h0, .inr (7, [.ref q1, .int 0, .ref q2, .null, .null, .int 0, .int 0]))] ++ [(q1, .inl (G 2, 60, .inl (fun _ => 0)))] ++ [(q2, .inl (G 0, 12, .inl (fun _ => 0)))] ++ [(q3, .inl (G 0, 12, .inl (fun _ => 0)))]) H := hP
  have hD : va_D (qone h0 s.heap.size) ([(h0, .inr (7, [.ref q1, .int 0, .ref q2, .null, .null, .int 0, .int 0]))] ++ [(q1, .inl (G 2, 60, .inl (fun _ => 0)))] ++ [(q2, .inl (G 0, 12, .inl (fun _ => 0)))] ++ [(q3, .inl (G 0, 12, .inl (fun _ => 0)))]) := hD
  refine va_putF (D := D) (ci := 7) (v := .ref q3) (ty := .array .int) (C := RX4) (T := TX4) (N := 7) hx hb hts qin_X4 tyX4 tyX4_ok nmX4 hown hK hP hD hS 0 rfl rfl 3 (by decide) (hts _ qkn_191) (fun _ h9 => h9) rfl hC.2.2.2.2.2.2.2 rfl (by decide +kernel) rfl rfl (Nat.le_of_ble_eq_true rfl) dX4_init_30 (fun H locs hP hD hS => ?_)
  have hP : va_P D vwCl ([(h0, .inr (7, [.ref q1, .int 0, .ref q2, .ref q3, .null, .int 0, .int 0]))] ++ [(q1, .inl (G 2, 60, .inl (fun _ => 0)))] ++ [(q2, .inl (G 0, 12, .inl (fun _ => 0)))] ++ [(q3, .inl (G 0, 12, .inl (fun _ => 0)))]) H := hP
  have hD : va_D (qone h0 s.heap.size) ([(h0, .inr (7, [.ref q1, .int 0, .ref q2, .ref q3, .null, .int 0, .int 0]))] ++ [(q1, .inl (G 2, 60, .inl (fun _ => 0)))] ++ [(q2, .inl (G 0, 12, .inl (fun _ => 0)))] ++ [(q3, .inl (G 0, 12, .inl (fun _ => 0)))]) := hD
  refine lv_aload_n hx hb dX4_init_33 rfl (lv_at hl 0 rfl) ?_
  refine lv_bipush (v := 12) hx hb dX4_init_34 (by decide) ?_
  refine va_newa (atype := .int) (ty := .int) (N' := 12) (a0 := (12, .inl (fun _ => 0))) hx hb (hts _ qja_int) rfl hK hP hD hS hA (fun _ => rfl) (by decide) (by decide) (Nat.le_of_ble_eq_true rfl) (Nat.le_of_ble_eq_true rfl) (Nat.le_of_ble_eq_true rfl) dX4_init_36 (fun q4 cA H hK2 hP hD hS => ?_)
  obtain rfl := qsame_arr hK2 (t := 0) rfl
  have hP : va_P D vwCl ([(h0, .inr (7, [.ref q1, .int 0, .ref q2, .ref q3, .null, .int 0, .int 0]))] ++ [(q1, .inl (G 2, 60, .inl (fun _ => 0)))] ++ [(q2, .inl (G 0, 12, .inl (fun _ => 0)))] ++ [(q3, .inl (G 0, 12, .inl (fun _ => 0)))] ++ [(q4, .inl (G 0, 12, .inl (fun _ => 0)))]) H := hP
  have hD : va_D (qone h0 s.heap.size) ([(h0, .inr (7, [.ref q1, .int 0, .ref q2, .ref q3, .null, .int 0, .int 0]))] ++ [(q1, .inl (G 2, 60, .inl (fun _ => 0)))] ++ [(q2, .inl (G 0, 12, .inl (fun _ => 0)))] ++ [(q3, .inl (G 0, 12, .inl (fun _ => 0)))] ++ [(q4, .inl (G 0, 12, .inl (fun _ => 0)))]) := hD
  refine va_putF (D := D) (ci := 7) (v := .ref q4) (ty := .array .int) (C := RX4) (T := TX4) (N := 7) hx hb hts qin_X4 tyX4 tyX4_ok nmX4 hown hK hP hD hS 0 rfl rfl 4 (by decide) (hts _ qkn_192) (fun _ h9 => h9) rfl hC.2.2.2.2.2.2.2 rfl (by decide +kernel) rfl rfl (Nat.le_of_ble_eq_true rfl) dX4_init_38 (fun H locs hP hD hS => ?_)
  have hP : va_P D vwCl ([(h0, .inr (7, [.ref q1, .int 0, .ref q2, .ref q3, .ref q4, .int 0, .int 0]))] ++ [(q1, .inl (G 2, 60, .inl (fun _ => 0)))] ++ [(q2, .inl (G 0, 12, .inl (fun _ => 0)))] ++ [(q3, .inl (G 0, 12, .inl (fun _ => 0)))] ++ [(q4, .inl (G 0, 12, .inl (fun _ => 0)))]) H := hP
  have hD : va_D (qone h0 s.heap.size) ([(h0, .inr (7, [.ref q1, .int 0, .ref q2, .ref q3, .ref q4, .int 0, .int 0]))] ++ [(q1, .inl (G 2, 60, .inl (fun _ => 0)))] ++ [(q2, .inl (G 0, 12, .inl (fun _ => 0)))] ++ [(q3, .inl (G 0, 12, .inl (fun _ => 0)))] ++ [(q4, .inl (G 0, 12, .inl (fun _ => 0)))]) := hD
  refine lv_aload_n hx hb dX4_init_41 rfl (lv_at hl 0 rfl) ?_
  refine lv_iconst (v := 0) hx hb dX4_init_42 (by decide) ?_
  refine va_put (D := D) (ci := 7) (v := .int 0) (ty := .int) (C := RX4) (T := TX4) (N := 7) hx hb hts qin_X4 tyX4 tyX4_ok nmX4 hown hK hP hD hS 0 rfl rfl 5 (by decide) (hts _ qkn_193) (fun _ h9 => h9) rfl (by decide +kernel) rfl rfl (Nat.le_of_ble_eq_true rfl) dX4_init_43 (fun H locs hP hD hS => ?_)
  have hP : va_P D vwCl ([(h0, .inr (7, [.ref q1, .int 0, .ref q2, .ref q3, .ref q4, .int 0, .int 0]))] ++ [(q1, .inl (G 2, 60, .inl (fun _ => 0)))] ++ [(q2, .inl (G 0, 12, .inl (fun _ => 0)))] ++ [(q3, .inl (G 0, 12, .inl (fun _ => 0)))] ++ [(q4, .inl (G 0, 12, .inl (fun _ => 0)))]) H := hP
  have hD : va_D (qone h0 s.heap.size) ([(h0, .inr (7, [.ref q1, .int 0, .ref q2, .ref q3, .ref q4, .int 0, .int 0]))] ++ [(q1, .inl (G 2, 60, .inl (fun _ => 0)))] ++ [(q2, .inl (G 0, 12, .inl (fun _ => 0)))] ++ [(q3, .inl (G 0, 12, .inl (fun _ => 0)))] ++ [(q4, .inl (G 0, 12, .inl (fun _ => 0)))]) := hD
  refine lv_aload_n hx hb dX4_init_46 rfl (lv_at hl 0 rfl) ?_
  refine lv_iconst (v := 0) hx hb dX4_init_47 (by decide) ?_
  refine va_put (D := D) (ci := 7) (v := .int 0) (ty := .int) (C := RX4) (T := TX4) (N := 7) hx hb hts qin_X4 tyX4 tyX4_ok nmX4 hown hK hP hD hS 0 rfl rfl 6 (by decide) (hts _ qkn_195) (fun _ h9 => h9) rfl (by decide +kernel) rfl rfl (Nat.le_of_ble_eq_true rfl) dX4_init_48 (fun H locs hP hD hS => ?_)
  have hP : va_P D vwCl ([(h0, .inr (7, [.ref q1, .int 0, .ref q2, .ref q3, .ref q4, .int 0, .int 0]))] ++ [(q1, .inl (G 2, 60, .inl (fun _ => 0)))] ++ [(q2, .inl (G 0, 12, .inl (fun _ => 0)))] ++ [(q3, .inl (G 0, 12, .inl (fun _ => 0)))] ++ [(q4, .inl (G 0, 12, .inl (fun _ => 0)))]) H := hP
  have hD : va_D (qone h0 s.heap.size) ([(h0, .inr (7, [.ref q1, .int 0, .ref q2, .ref q3, .ref q4, .int 0, .int 0]))] ++ [(q1, .inl (G 2, 60, .inl (fun _ => 0)))] ++ [(q2, .inl (G 0, 12, .inl (fun _ => 0)))] ++ [(q3, .inl (G 0, 12, .inl (fun _ => 0)))] ++ [(q4, .inl (G 0, 12, .inl (fun _ => 0)))]) := hD
  exact q_cret hC hr (W0 := [(h0, .inr (7, [.ref q1, .int 0, .ref q2, .ref q3, .ref q4, .int 0, .int 0]))] ++ [(q1, .inl (G 2, 60, .inl (fun _ => 0)))] ++ [(q2, .inl (G 0, 12, .inl (fun _ => 0)))] ++ [(q3, .inl (G 0, 12, .inl (fun _ => 0)))] ++ [(q4, .inl (G 0, 12, .inl (fun _ => 0)))]) ⟨q1, q2, q3, q4, rfl⟩ hP hD hS (Nat.le_of_ble_eq_true rfl) (Nat.le_of_ble_eq_true rfl) dX4_init_51
