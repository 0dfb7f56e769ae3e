def fL_cell (L : Nat) (xs : Nat → Int32) (a2 : Int32) : Option (Int32) :=
  if Int32.ofNat L ≤ a2 then
    some ((40503 : Int32) * a2)
  else
    if qin a2 L = true then
    some (xs (a2).toNatClampNeg)
    else none
theorem qhd_L_cell : yL_cell.cls ≠ "java/lang/invoke/MethodHandle" ∧ yL_cell.cls ≠ "java/lang/invoke/VarHandle" ∧ (parseMethodDescriptor yL_cell.desc).map (fun d => d.parameters.length) = some 2 := ⟨by decide +kernel, by decide +kernel, by decide +kernel⟩
set_option maxHeartbeats 4000000 in
set_option maxRecDepth 100000 in
theorem mL_cell {l : Launch} {D : va_G} {G : Nat → ClassId} {ad : Nat → Nat} {b0 : Nat} {L : Nat} {xs : Nat → Int32} {a2 : Int32} {rF : Int32} (hJ : qInj ad) (hst : l.stackTraces = false) (hf : fL_cell L xs a2 = some rF) : lCM l D G ad yL_cell (Cond.code yL_cell cL_cell 2 (some .int)) 1 0 0 [.ref b0, .int a2] (lX [] [] []) (lSc b0 L xs) (fun st => lQi D (lX [] [] []) (lX [] [] []) st rF) := by
  refine l_start RL rfl (by decide +kernel) hJ (fun a b h => by simp only [lQi, lQl, lQr, h]) (Nat.le_of_ble_eq_true rfl) ?_
  intro p e s m args below meth c ls hC hr _ hE hR hl
  have hx := hC.1
  have hb := hC.2.1
  have hl : lv_has ls 2 [(0, .ref b0), (1, .int a2)] := hl
  unfold fL_cell at hf
  refine lv_iload_n hx hb dL_cell_0 rfl (lv_at hl 1 rfl) ?_
  refine lv_aload_n hx hb dL_cell_1 rfl (lv_at hl 0 rfl) ?_
  refine l_slen hC hR hE dL_cell_2 ?_
  refine lv_icmp_ge (tgt := 12) hx hb dL_cell_3 (by decide) (fun c__1 => ?_) (fun c__1 => ?_)
  · have hf := qif_t hf c__1
    refine lv_ldc (v := 40503) hx hb hC.2.2.2.1 (hC.2.2.2.2.1 _ qkl_263) dL_cell_12 ?_
    refine lv_iload_n hx hb dL_cell_14 rfl (lv_at hl 1 rfl) ?_
    refine lv_imul hx hb dL_cell_15 ?_
    have e1 := qso hf
    exact l_iret hC hR hr rfl e1 rfl dL_cell_16 (by omega) (by omega)
  · have hf := qif_f hf c__1
    refine lv_aload_n hx hb dL_cell_6 rfl (lv_at hl 0 rfl) ?_
    refine lv_iload_n hx hb dL_cell_7 rfl (lv_at hl 1 rfl) ?_
    obtain ⟨g_2, hf⟩ := qgd hf
    refine l_sld hC hR hE (j := (a2).toNatClampNeg) g_2 rfl dL_cell_8 ?_
    refine lv_goto (tgt := 16) hx hb dL_cell_9 (by decide) ?_
    have e1 := qso hf
    exact l_iret hC hR hr rfl e1 rfl dL_cell_16 (by omega) (by omega)
def fL_many_L11 (n : Nat) (a2 : Int32)  : Nat → (Nat → Nat → Int32) → Int32 → Int32 → Int32 → Int32 → Option (Int32 × (Nat → Nat → Int32))
  | 0, _, _, _, _, _ => none
  | k + 1, M, x1, x2, x4, x5 =>
    if x4 ≤ x5 then
      some (x2, M)
    else
      if qin x5 n = true then
      qnm ((x5).toNatClampNeg) fun (j_4 : Nat) =>
      if M j_4 0 = x1 then
        qnm (x2 + 1) fun (x_8 : Int32) =>
        qnm (x5 + 1) fun (x_9 : Int32) =>
        fL_many_L11 n a2 k M x1 x_8 x4 x_9
      else
        qnm (x2 + 0) fun (x_6 : Int32) =>
        qnm (x5 + 1) fun (x_7 : Int32) =>
        fL_many_L11 n a2 k M x1 x_6 x4 x_7
      else none
set_option maxHeartbeats 4000000 in
set_option maxRecDepth 100000 in
theorem mL_many_L11 {p : Program} {l : Launch} {e : Env} {s : State} {m : MethodId} {args : Array Value} {below : List Frame} {meth : Method} {c : Code} {D : va_G} {G : Nat → ClassId} {ad : Nat → Nat} {gq : Nat} {gr : Nat → Nat} {n : Nat} {a2 : Int32} {M0 : Nat → Nat → Int32} {rF : Int32} {MF : Nat → Nat → Int32} (hst : l.stackTraces = false) (hC : lCx p c cL_many 7 s m args meth RL D G ad (lX [] [] (lgr G gq gr n M0))) (hr : meth.sig.returnType = some .int) : ∀ (k : Nat), ∀ (M : Nat → Nat → Int32) (x1 : Int32) (x2 : Int32) (x4 : Int32) (x5 : Int32) (cc cs : Nat) (H : Heap) (locs : List Loc) (ls : Array Slot), fL_many_L11 n a2 k M x1 x2 x4 x5 = some (rF, MF) → lR D (lX [] [] (lgr G gq gr n M0)) (lX [] [] (lgr G gq gr n M)) s H locs → lv_has ls 7 [(1, .int x1), (2, .int x2), (3, .ref gq), (4, .int x4), (5, .int x5)] → cc ≤ 0 → cs ≤ 0 → W p l e (qrm 1 0 0) s m args below meth c H locs cc cs (MQ below (lQi D (lX [] [] (lgr G gq gr n M0)) (lX [] [] (lgr G gq gr n MF)) s rF) args s 0 0 (va_A (lX [] [] (lgr G gq gr n M0)) s.heap.size)) (F0 m 11 ls []) := by
  have hx := hC.1
  have hb := hC.2.1
  have hJ := hC.2.2.2.2.2.2.2.1
  intro k
  induction k with
  | zero => intro M x1 x2 x4 x5 cc cs H locs ls hf; exact nomatch (show (none : Option (Int32 × (Nat → Nat → Int32))) = some _ from hf)
  | succ k ih =>
    intro M x1 x2 x4 x5 cc cs H locs ls hf hR hl hcM hsM
    rw [fL_many_L11] at hf
    refine lv_iload hx hb dL_many_11 (lv_at hl 4 rfl) ?_
    refine lv_iload hx hb dL_many_13 (lv_at hl 3 rfl) ?_
    refine lv_icmp_ge (tgt := 46) hx hb dL_many_15 (by decide) (fun c__2 => ?_) (fun c__2 => ?_)
    · have hf := qif_t hf c__2
      refine lv_iload_n hx hb dL_many_46 rfl (lv_at hl 1 rfl) ?_
      obtain ⟨e1, e2⟩ := qso2 hf
      exact l_iret hC hR hr rfl e1 (by rw [e2]) dL_many_47 (by omega) (by omega)
    · have hf := qif_f hf c__2
      refine lv_aload_n hx hb dL_many_18 rfl (lv_at hl 2 rfl) ?_
      refine lv_iload hx hb dL_many_19 (lv_at hl 4 rfl) ?_
      obtain ⟨g_3, hf⟩ := qgd hf
      obtain ⟨j_4, ej_4⟩ : ∃ y : Nat, y = (x5).toNatClampNeg := ⟨_, rfl⟩
      have hf := qnm_t hf ej_4
      have hj_4 : j_4 < n := by rw [ej_4]; exact lq_lt g_3
      refine l_ald hC hR lgr_m0 (j := j_4) g_3 ej_4.symm dL_many_21 ?_
      refine lv_astore (lv' := [(6, .ref (gr j_4)), (1, .int x1), (2, .int x2), (3, .ref gq), (4, .int x4), (5, .int x5)]) hx hb dL_many_22 hl (by decide) rfl (fun ls hl => ?_)
      refine lv_iload_n hx hb dL_many_24 rfl (lv_at hl 2 rfl) ?_
      refine lv_aload hx hb dL_many_25 (lv_at hl 0 rfl) ?_
      refine lv_iconst (v := 0) hx hb dL_many_27 (by decide) ?_
      refine l_ild hC hR (lgr_mr hj_4) (j := 0) (by decide) (by decide) dL_many_28 ?_
      refine lv_iload_n hx hb dL_many_29 rfl (lv_at hl 1 rfl) ?_
      refine lv_icmp_ne (tgt := 37) hx hb dL_many_30 (by decide) (fun c__5 => ?_) (fun c__5 => ?_)
      · have hf := qif_f hf c__5
        refine lv_iconst (v := 0) hx hb dL_many_37 (by decide) ?_
        refine lv_iadd hx hb dL_many_38 ?_
        refine lv_topi (fun x_6 ex_6 => ?_)
        have hf := qnm_t hf ex_6
        refine lv_istore_n (lv' := [(2, .int x_6), (6, .ref (gr j_4)), (1, .int x1), (3, .ref gq), (4, .int x4), (5, .int x5)]) hx hb dL_many_39 rfl hl (by decide) rfl (fun ls hl => ?_)
        obtain ⟨x_7, ex_7⟩ : ∃ y : Int32, y = x5 + 1 := ⟨_, rfl⟩
        have hf := qnm_t hf ex_7
        refine lv_iinc (v := x_7) (lv' := [(5, .int x_7), (2, .int x_6), (6, .ref (gr j_4)), (1, .int x1), (3, .ref gq), (4, .int x4)]) hx hb dL_many_40 hl (k := 5) rfl (by rw [ex_7]; rfl) (by decide) rfl (fun ls hl => ?_)
        refine lv_goto (tgt := 11) hx hb dL_many_43 (by decide) ?_
        exact ih _ _ _ _ _ _ _ _ _ _ hf hR (lv_sub hl [3, 1, 4, 5, 0] rfl) (by omega) (by omega)
      · have hf := qif_t hf c__5
        refine lv_iconst (v := 1) hx hb dL_many_33 (by decide) ?_
        refine lv_goto (tgt := 38) hx hb dL_many_34 (by decide) ?_
        refine lv_iadd hx hb dL_many_38 ?_
        refine lv_topi (fun x_8 ex_8 => ?_)
        have hf := qnm_t hf ex_8
        refine lv_istore_n (lv' := [(2, .int x_8), (6, .ref (gr j_4)), (1, .int x1), (3, .ref gq), (4, .int x4), (5, .int x5)]) hx hb dL_many_39 rfl hl (by decide) rfl (fun ls hl => ?_)
        obtain ⟨x_9, ex_9⟩ : ∃ y : Int32, y = x5 + 1 := ⟨_, rfl⟩
        have hf := qnm_t hf ex_9
        refine lv_iinc (v := x_9) (lv' := [(5, .int x_9), (2, .int x_8), (6, .ref (gr j_4)), (1, .int x1), (3, .ref gq), (4, .int x4)]) hx hb dL_many_40 hl (k := 5) rfl (by rw [ex_9]; rfl) (by decide) rfl (fun ls hl => ?_)
        refine lv_goto (tgt := 11) hx hb dL_many_43 (by decide) ?_
        exact ih _ _ _ _ _ _ _ _ _ _ hf hR (lv_sub hl [3, 1, 4, 5, 0] rfl) (by omega) (by omega)
def fL_many (n : Nat) (M0 : Nat → Nat → Int32) (a2 : Int32) : Option (Int32 × (Nat → Nat → Int32)) :=
  qnm (Int32.ofNat n) fun (x_1 : Int32) =>
  fL_many_L11 n a2 13 M0 a2 0 x_1 0
theorem qhd_L_many : yL_many.cls ≠ "java/lang/invoke/MethodHandle" ∧ yL_many.cls ≠ "java/lang/invoke/VarHandle" ∧ (parseMethodDescriptor yL_many.desc).map (fun d => d.parameters.length) = some 2 := ⟨by decide +kernel, by decide +kernel, by decide +kernel⟩
set_option maxHeartbeats 4000000 in
set_option maxRecDepth 100000 in
theorem mL_many {l : Launch} {D : va_G} {G : Nat → ClassId} {ad : Nat → Nat} {gq : Nat} {gr : Nat → Nat} {n : Nat} {M0 : Nat → Nat → Int32} {a2 : Int32} {rF : Int32} {MF : Nat → Nat → Int32} (hJ : qInj ad) (hst : l.stackTraces = false) (hf : fL_many n M0 a2 = some (rF, MF)) : lCM l D G ad yL_many (Cond.code yL_many cL_many 7 (some .int)) 1 0 0 [.ref gq, .int a2] (lX [] [] (lgr G gq gr n M0)) (fun _ _ _ => True) (fun st => lQi D (lX [] [] (lgr G gq gr n M0)) (lX [] [] (lgr G gq gr n MF)) st rF) := by
  refine l_start RL rfl (by decide +kernel) hJ (fun a b h => by simp only [lQi, lQl, lQr, h]) (Nat.le_of_ble_eq_true rfl) ?_
  intro p e s m args below meth c ls hC hr _ hE hR hl
  have hx := hC.1
  have hb := hC.2.1
  have hl : lv_has ls 7 [(0, .ref gq), (1, .int a2)] := hl
  unfold fL_many at hf
  refine lv_iconst (v := 0) hx hb dL_many_0 (by decide) ?_
  refine lv_istore_n (lv' := [(2, .int 0), (0, .ref gq), (1, .int a2)]) hx hb dL_many_1 rfl hl (by decide) rfl (fun ls hl => ?_)
  refine lv_aload_n hx hb dL_many_2 rfl (lv_at hl 1 rfl) ?_
  refine lv_astore_n (lv' := [(3, .ref gq), (2, .int 0), (0, .ref gq), (1, .int a2)]) hx hb dL_many_3 rfl hl (by decide) rfl (fun ls hl => ?_)
  refine lv_aload_n hx hb dL_many_4 rfl (lv_at hl 0 rfl) ?_
  refine l_alen hC hR lgr_m0 rfl rfl dL_many_5 ?_
  refine lv_topi (fun x_1 ex_1 => ?_)
  have hf := qnm_t hf ex_1
  refine lv_istore (lv' := [(4, .int x_1), (3, .ref gq), (2, .int 0), (0, .ref gq), (1, .int a2)]) hx hb dL_many_6 hl (by decide) rfl (fun ls hl => ?_)
  refine lv_iconst (v := 0) hx hb dL_many_8 (by decide) ?_
  refine lv_istore (lv' := [(5, .int 0), (4, .int x_1), (3, .ref gq), (2, .int 0), (0, .ref gq), (1, .int a2)]) hx hb dL_many_9 hl (by decide) rfl (fun ls hl => ?_)
  exact mL_many_L11 hst hC hr 13 _ _ _ _ _ _ _ _ _ _ hf hR (lv_sub hl [5, 3, 2, 1, 0] rfl) (by omega) (by omega)
def fL_there_L69 (n : Nat) (a2 : Int32) (a3 : Int32)  : Nat → (Nat → Nat → Int32) → (Nat → Int32) → Int32 → Int32 → Int32 → Option (Int32 × (Nat → Nat → Int32))
  | 0, _, _, _, _, _ => none
  | k + 1, M, f1, x2, x4, x5 =>
    if x2 ≤ x5 then
      some (x4, M)
    else
      qnm (if (0 : Int32) < x4 - 1 then x4 - 1 else 0) fun (x_5 : Int32) =>
      if qin x5 5 = true then
      if f1 (x5).toNatClampNeg = 0 then
        qnm (x5 + 1) fun (x_8 : Int32) =>
        fL_there_L69 n a2 a3 k M f1 x2 x_5 x_8
      else
        qnm (if (0 : Int32) < x_5 - 1 then x_5 - 1 else 0) fun (x_9 : Int32) =>
        qnm (x5 + 1) fun (x_10 : Int32) =>
        fL_there_L69 n a2 a3 k M f1 x2 x_9 x_10
      else none
set_option maxHeartbeats 4000000 in
set_option maxRecDepth 100000 in
theorem mL_there_L69 {p : Program} {l : Launch} {e : Env} {s : State} {m : MethodId} {args : Array Value} {below : List Frame} {meth : Method} {c : Code} {D : va_G} {G : Nat → ClassId} {ad : Nat → Nat} {gq : Nat} {gr : Nat → Nat} {n : Nat} {a2 : Int32} {a3 : Int32} {M0 : Nat → Nat → Int32} {rF : Int32} {MF : Nat → Nat → Int32} (hst : l.stackTraces = false) (hC : lCx p c cL_there 8 s m args meth RL D G ad (lX [] [] (lgr G gq gr n M0))) (hr : meth.sig.returnType = some .int) : ∀ (k : Nat), ∀ (M : Nat → Nat → Int32) (f1 : Nat → Int32) (x2 : Int32) (x4 : Int32) (x5 : Int32) (q1 : Nat) (cc cs : Nat) (H : Heap) (locs : List Loc) (ls : Array Slot), fL_there_L69 n a2 a3 k M f1 x2 x4 x5 = some (rF, MF) → lR D (lX [] [] (lgr G gq gr n M0)) (lX [] [(q1, .inl (G 1, 5, .inl f1))] (lgr G gq gr n M)) s H locs → lv_has ls 8 [(2, .int x2), (3, .ref q1), (4, .int x4), (5, .int x5)] → cc ≤ 1 → cs ≤ 5 → W p l e (qrm 2 1 5) s m args below meth c H locs cc cs (MQ below (lQi D (lX [] [] (lgr G gq gr n M0)) (lX [] [] (lgr G gq gr n MF)) s rF) args s 1 5 (va_A (lX [] [] (lgr G gq gr n M0)) s.heap.size)) (F0 m 69 ls []) := by
  have hx := hC.1
  have hb := hC.2.1
  have hJ := hC.2.2.2.2.2.2.2.1
  intro k
  induction k with
  | zero => intro M f1 x2 x4 x5 q1 cc cs H locs ls hf; exact nomatch (show (none : Option (Int32 × (Nat → Nat → Int32))) = some _ from hf)
  | succ k ih =>
    intro M f1 x2 x4 x5 q1 cc cs H locs ls hf hR hl hcM hsM
    rw [fL_there_L69] at hf
    refine lv_iload hx hb dL_there_69 (lv_at hl 3 rfl) ?_
    refine lv_iload_n hx hb dL_there_71 rfl (lv_at hl 0 rfl) ?_
    refine lv_icmp_ge (tgt := 113) hx hb dL_there_72 (by decide) (fun c__4 => ?_) (fun c__4 => ?_)
    · have hf := qif_t hf c__4
      refine lv_iload hx hb dL_there_113 (lv_at hl 2 rfl) ?_
      have hR := lR_pick hR [] (ex1 := []) (g1 := (lgr G gq gr n M)) (by decide) rfl (Or.inl rfl)
      obtain ⟨e1, e2⟩ := qso2 hf
      exact l_iret hC hR hr rfl e1 (by rw [e2]) dL_there_115 (by omega) (by omega)
    · have hf := qif_f hf c__4
      refine lv_iconst (v := 0) hx hb dL_there_75 (by decide) ?_
      refine lv_iload hx hb dL_there_76 (lv_at hl 2 rfl) ?_
      refine lv_iconst (v := 1) hx hb dL_there_78 (by decide) ?_
      refine lv_isub hx hb dL_there_79 ?_
      refine va_mmax hx hb (hC.2.2.1.trans hl.1.symm) hC.2.2.2.1 (hC.2.2.2.2.1 _ qkl_662) (hC.2.2.2.2.1 _ qk_663) (hC.2.2.2.2.1 _ qk_25) (hC.2.2.2.2.1 _ qk_664) (Nat.le_of_ble_eq_true rfl) (Nat.le_of_ble_eq_true rfl) (by show _ ≤ 1; omega) (by show _ ≤ 5; omega) dL_there_80 ?_
      refine lv_topi (fun x_5 ex_5 => ?_)
      have hf := qnm_t hf ex_5
      refine lv_istore (lv' := [(4, .int x_5), (2, .int x2), (3, .ref q1), (5, .int x5)]) hx hb dL_there_83 hl (by decide) rfl (fun ls hl => ?_)
      refine lv_aload_n hx hb dL_there_85 rfl (lv_at hl 2 rfl) ?_
      refine lv_iload hx hb dL_there_86 (lv_at hl 3 rfl) ?_
      obtain ⟨g_6, hf⟩ := qgd hf
      refine l_zld hC hR (lX_mx 0 rfl) (j := (x5).toNatClampNeg) g_6 rfl dL_there_88 ?_
      refine lv_if_eq (tgt := 103) hx hb dL_there_89 (by decide) (fun c__7 => ?_) (fun c__7 => ?_)
      · have hf := qif_t hf c__7
        refine lv_iload hx hb dL_there_103 (lv_at hl 0 rfl) ?_
        refine lv_istore (lv' := [(4, .int x_5), (2, .int x2), (3, .ref q1), (5, .int x5)]) hx hb dL_there_105 hl (by decide) rfl (fun ls hl => ?_)
        obtain ⟨x_8, ex_8⟩ : ∃ y : Int32, y = x5 + 1 := ⟨_, rfl⟩
        have hf := qnm_t hf ex_8
        refine lv_iinc (v := x_8) (lv' := [(5, .int x_8), (4, .int x_5), (2, .int x2), (3, .ref q1)]) hx hb dL_there_107 hl (k := 3) rfl (by rw [ex_8]; rfl) (by decide) rfl (fun ls hl => ?_)
        refine lv_goto (tgt := 69) hx hb dL_there_110 (by decide) ?_
        exact ih _ _ _ _ _ _ _ _ _ _ _ hf hR (lv_sub hl [2, 3, 1, 0] rfl) (by omega) (by omega)
      · have hf := qif_f hf c__7
        refine lv_iconst (v := 0) hx hb dL_there_92 (by decide) ?_
        refine lv_iload hx hb dL_there_93 (lv_at hl 0 rfl) ?_
        refine lv_iconst (v := 1) hx hb dL_there_95 (by decide) ?_
        refine lv_isub hx hb dL_there_96 ?_
        refine va_mmax hx hb (hC.2.2.1.trans hl.1.symm) hC.2.2.2.1 (hC.2.2.2.2.1 _ qkl_662) (hC.2.2.2.2.1 _ qk_663) (hC.2.2.2.2.1 _ qk_25) (hC.2.2.2.2.1 _ qk_664) (Nat.le_of_ble_eq_true rfl) (Nat.le_of_ble_eq_true rfl) (by show _ ≤ 1; omega) (by show _ ≤ 5; omega) dL_there_97 ?_
        refine lv_topi (fun x_9 ex_9 => ?_)
        have hf := qnm_t hf ex_9
        refine lv_goto (tgt := 105) hx hb dL_there_100 (by decide) ?_
        refine lv_istore (lv' := [(4, .int x_9), (2, .int x2), (3, .ref q1), (5, .int x5)]) hx hb dL_there_105 hl (by decide) rfl (fun ls hl => ?_)
        obtain ⟨x_10, ex_10⟩ : ∃ y : Int32, y = x5 + 1 := ⟨_, rfl⟩
        have hf := qnm_t hf ex_10
        refine lv_iinc (v := x_10) (lv' := [(5, .int x_10), (4, .int x_9), (2, .int x2), (3, .ref q1)]) hx hb dL_there_107 hl (k := 3) rfl (by rw [ex_10]; rfl) (by decide) rfl (fun ls hl => ?_)
        refine lv_goto (tgt := 69) hx hb dL_there_110 (by decide) ?_
        exact ih _ _ _ _ _ _ _ _ _ _ _ hf hR (lv_sub hl [2, 3, 1, 0] rfl) (by omega) (by omega)
def fL_there_L15 (n : Nat) (a2 : Int32) (a3 : Int32)  : Nat → (Nat → Nat → Int32) → (Nat → Int32) → Int32 → Int32 → Int32 → Int32 → Option (Int32 × (Nat → Nat → Int32))
  | 0, _, _, _, _, _, _ => none
  | k + 1, M, f1, x1, x2, x5, x6 =>
    if x5 ≤ x6 then
      fL_there_L69 n a2 a3 6 M f1 x2 x1 0
    else
      if qin x6 n = true then
      qnm ((x6).toNatClampNeg) fun (j_12 : Nat) =>
      if qin (M j_12 1) 5 = true then
      if f1 (M j_12 1).toNatClampNeg = 0 then
        if M j_12 0 = 3 then
          if qin (M j_12 1) 5 = true then
          qnm (upd f1 (M j_12 1).toNatClampNeg 1) fun (f_23 : Nat → Int32) =>
          qnm (x6 + 1) fun (x_24 : Int32) =>
          fL_there_L15 n a2 a3 k M f_23 x1 x2 x5 x_24
          else none
        else
          if qin (M j_12 1) 5 = true then
          qnm (upd f1 (M j_12 1).toNatClampNeg 0) fun (f_20 : Nat → Int32) =>
          qnm (x6 + 1) fun (x_21 : Int32) =>
          fL_there_L15 n a2 a3 k M f_20 x1 x2 x5 x_21
          else none
      else
        if qin (M j_12 1) 5 = true then
        qnm (upd f1 (M j_12 1).toNatClampNeg 1) fun (f_16 : Nat → Int32) =>
        qnm (x6 + 1) fun (x_17 : Int32) =>
        fL_there_L15 n a2 a3 k M f_16 x1 x2 x5 x_17
        else none
      else none
      else none
set_option maxHeartbeats 4000000 in
set_option maxRecDepth 100000 in
theorem mL_there_L15 {p : Program} {l : Launch} {e : Env} {s : State} {m : MethodId} {args : Array Value} {below : List Frame} {meth : Method} {c : Code} {D : va_G} {G : Nat → ClassId} {ad : Nat → Nat} {gq : Nat} {gr : Nat → Nat} {n : Nat} {a2 : Int32} {a3 : Int32} {M0 : Nat → Nat → Int32} {rF : Int32} {MF : Nat → Nat → Int32} (hst : l.stackTraces = false) (hC : lCx p c cL_there 8 s m args meth RL D G ad (lX [] [] (lgr G gq gr n M0))) (hr : meth.sig.returnType = some .int) : ∀ (k : Nat), ∀ (M : Nat → Nat → Int32) (f1 : Nat → Int32) (x1 : Int32) (x2 : Int32) (x5 : Int32) (x6 : Int32) (q1 : Nat) (cc cs : Nat) (H : Heap) (locs : List Loc) (ls : Array Slot), fL_there_L15 n a2 a3 k M f1 x1 x2 x5 x6 = some (rF, MF) → lR D (lX [] [] (lgr G gq gr n M0)) (lX [] [(q1, .inl (G 1, 5, .inl f1))] (lgr G gq gr n M)) s H locs → lv_has ls 8 [(1, .int x1), (2, .int x2), (3, .ref q1), (4, .ref gq), (5, .int x5), (6, .int x6)] → cc ≤ 1 → cs ≤ 5 → W p l e (qrm 2 1 5) s m args below meth c H locs cc cs (MQ below (lQi D (lX [] [] (lgr G gq gr n M0)) (lX [] [] (lgr G gq gr n MF)) s rF) args s 1 5 (va_A (lX [] [] (lgr G gq gr n M0)) s.heap.size)) (F0 m 15 ls []) := by
  have hx := hC.1
  have hb := hC.2.1
  have hJ := hC.2.2.2.2.2.2.2.1
  intro k
  induction k with
  | zero => intro M f1 x1 x2 x5 x6 q1 cc cs H locs ls hf; exact nomatch (show (none : Option (Int32 × (Nat → Nat → Int32))) = some _ from hf)
  | succ k ih =>
    intro M f1 x1 x2 x5 x6 q1 cc cs H locs ls hf hR hl hcM hsM
    rw [fL_there_L15] at hf
    refine lv_iload hx hb dL_there_15 (lv_at hl 5 rfl) ?_
    refine lv_iload hx hb dL_there_17 (lv_at hl 4 rfl) ?_
    refine lv_icmp_ge (tgt := 63) hx hb dL_there_19 (by decide) (fun c__3 => ?_) (fun c__3 => ?_)
    · have hf := qif_t hf c__3
      refine lv_iload_n hx hb dL_there_63 rfl (lv_at hl 0 rfl) ?_
      refine lv_istore (lv' := [(4, .int x1), (1, .int x1), (2, .int x2), (3, .ref q1), (5, .int x5), (6, .int x6)]) hx hb dL_there_64 hl (by decide) rfl (fun ls hl => ?_)
      refine lv_iconst (v := 0) hx hb dL_there_66 (by decide) ?_
      refine lv_istore (lv' := [(5, .int 0), (4, .int x1), (1, .int x1), (2, .int x2), (3, .ref q1), (6, .int x6)]) hx hb dL_there_67 hl (by decide) rfl (fun ls hl => ?_)
      exact mL_there_L69 hst hC hr 6 _ _ _ _ _ _ _ _ _ _ _ hf hR (lv_sub hl [3, 4, 1, 0] rfl) (by omega) (by omega)
    · have hf := qif_f hf c__3
      refine lv_aload hx hb dL_there_22 (lv_at hl 3 rfl) ?_
      refine lv_iload hx hb dL_there_24 (lv_at hl 5 rfl) ?_
      obtain ⟨g_11, hf⟩ := qgd hf
      obtain ⟨j_12, ej_12⟩ : ∃ y : Nat, y = (x6).toNatClampNeg := ⟨_, rfl⟩
      have hf := qnm_t hf ej_12
      have hj_12 : j_12 < n := by rw [ej_12]; exact lq_lt g_11
      refine l_ald hC hR lgr_m0 (j := j_12) g_11 ej_12.symm dL_there_26 ?_
      refine lv_astore (lv' := [(7, .ref (gr j_12)), (1, .int x1), (2, .int x2), (3, .ref q1), (4, .ref gq), (5, .int x5), (6, .int x6)]) hx hb dL_there_27 hl (by decide) rfl (fun ls hl => ?_)
      refine lv_aload_n hx hb dL_there_29 rfl (lv_at hl 3 rfl) ?_
      refine lv_aload hx hb dL_there_30 (lv_at hl 0 rfl) ?_
      refine lv_iconst (v := 1) hx hb dL_there_32 (by decide) ?_
      refine l_ild hC hR (lgr_mr hj_12) (j := 1) (by decide) (by decide) dL_there_33 ?_
      refine lv_aload_n hx hb dL_there_34 rfl (lv_at hl 3 rfl) ?_
      refine lv_aload hx hb dL_there_35 (lv_at hl 0 rfl) ?_
      refine lv_iconst (v := 1) hx hb dL_there_37 (by decide) ?_
      refine l_ild hC hR (lgr_mr hj_12) (j := 1) (by decide) (by decide) dL_there_38 ?_
      obtain ⟨g_13, hf⟩ := qgd hf
      refine l_zld hC hR (lX_mx 0 rfl) (j := (M j_12 1).toNatClampNeg) g_13 rfl dL_there_39 ?_
      refine lv_if_ne (tgt := 51) hx hb dL_there_40 (by decide) (fun c__14 => ?_) (fun c__14 => ?_)
      · have hf := qif_f hf c__14
        refine lv_iconst (v := 1) hx hb dL_there_51 (by decide) ?_
        refine lv_goto (tgt := 56) hx hb dL_there_52 (by decide) ?_
        obtain ⟨g_15, hf⟩ := qgd hf
        refine l_zst hC hR 0 rfl (j := (M j_12 1).toNatClampNeg) g_15 rfl (by decide) dL_there_56 (fun H locs hR => ?_)
        obtain ⟨f_16, ef_16⟩ : ∃ y : Nat → Int32, y = upd f1 (M j_12 1).toNatClampNeg 1 := ⟨_, rfl⟩
        have hf := qnm_t hf ef_16
        have hR : lR D (lX [] [] (lgr G gq gr n M0)) (lX [] [(q1, .inl (G 1, 5, .inl f_16))] (lgr G gq gr n M)) s H locs := by rw [ef_16]; exact hR
        obtain ⟨x_17, ex_17⟩ : ∃ y : Int32, y = x6 + 1 := ⟨_, rfl⟩
        have hf := qnm_t hf ex_17
        refine lv_iinc (v := x_17) (lv' := [(6, .int x_17), (7, .ref (gr j_12)), (1, .int x1), (2, .int x2), (3, .ref q1), (4, .ref gq), (5, .int x5)]) hx hb dL_there_57 hl (k := 6) rfl (by rw [ex_17]; rfl) (by decide) rfl (fun ls hl => ?_)
        refine lv_goto (tgt := 15) hx hb dL_there_60 (by decide) ?_
        exact ih _ _ _ _ _ _ _ _ _ _ _ _ hf hR (lv_sub hl [2, 3, 4, 5, 6, 0] rfl) (by omega) (by omega)
      · have hf := qif_t hf c__14
        refine lv_aload hx hb dL_there_43 (lv_at hl 0 rfl) ?_
        refine lv_iconst (v := 0) hx hb dL_there_45 (by decide) ?_
        refine l_ild hC hR (lgr_mr hj_12) (j := 0) (by decide) (by decide) dL_there_46 ?_
        refine lv_iconst (v := 3) hx hb dL_there_47 (by decide) ?_
        refine lv_icmp_ne (tgt := 55) hx hb dL_there_48 (by decide) (fun c__18 => ?_) (fun c__18 => ?_)
        · have hf := qif_f hf c__18
          refine lv_iconst (v := 0) hx hb dL_there_55 (by decide) ?_
          obtain ⟨g_19, hf⟩ := qgd hf
          refine l_zst hC hR 0 rfl (j := (M j_12 1).toNatClampNeg) g_19 rfl (by decide) dL_there_56 (fun H locs hR => ?_)
          obtain ⟨f_20, ef_20⟩ : ∃ y : Nat → Int32, y = upd f1 (M j_12 1).toNatClampNeg 0 := ⟨_, rfl⟩
          have hf := qnm_t hf ef_20
          have hR : lR D (lX [] [] (lgr G gq gr n M0)) (lX [] [(q1, .inl (G 1, 5, .inl f_20))] (lgr G gq gr n M)) s H locs := by rw [ef_20]; exact hR
          obtain ⟨x_21, ex_21⟩ : ∃ y : Int32, y = x6 + 1 := ⟨_, rfl⟩
          have hf := qnm_t hf ex_21
          refine lv_iinc (v := x_21) (lv' := [(6, .int x_21), (7, .ref (gr j_12)), (1, .int x1), (2, .int x2), (3, .ref q1), (4, .ref gq), (5, .int x5)]) hx hb dL_there_57 hl (k := 6) rfl (by rw [ex_21]; rfl) (by decide) rfl (fun ls hl => ?_)
          refine lv_goto (tgt := 15) hx hb dL_there_60 (by decide) ?_
          exact ih _ _ _ _ _ _ _ _ _ _ _ _ hf hR (lv_sub hl [2, 3, 4, 5, 6, 0] rfl) (by omega) (by omega)
        · have hf := qif_t hf c__18
          refine lv_iconst (v := 1) hx hb dL_there_51 (by decide) ?_
          refine lv_goto (tgt := 56) hx hb dL_there_52 (by decide) ?_
          obtain ⟨g_22, hf⟩ := qgd hf
          refine l_zst hC hR 0 rfl (j := (M j_12 1).toNatClampNeg) g_22 rfl (by decide) dL_there_56 (fun H locs hR => ?_)
          obtain ⟨f_23, ef_23⟩ : ∃ y : Nat → Int32, y = upd f1 (M j_12 1).toNatClampNeg 1 := ⟨_, rfl⟩
          have hf := qnm_t hf ef_23
          have hR : lR D (lX [] [] (lgr G gq gr n M0)) (lX [] [(q1, .inl (G 1, 5, .inl f_23))] (lgr G gq gr n M)) s H locs := by rw [ef_23]; exact hR
          obtain ⟨x_24, ex_24⟩ : ∃ y : Int32, y = x6 + 1 := ⟨_, rfl⟩
          have hf := qnm_t hf ex_24
          refine lv_iinc (v := x_24) (lv' := [(6, .int x_24), (7, .ref (gr j_12)), (1, .int x1), (2, .int x2), (3, .ref q1), (4, .ref gq), (5, .int x5)]) hx hb dL_there_57 hl (k := 6) rfl (by rw [ex_24]; rfl) (by decide) rfl (fun ls hl => ?_)
          refine lv_goto (tgt := 15) hx hb dL_there_60 (by decide) ?_
          exact ih _ _ _ _ _ _ _ _ _ _ _ _ hf hR (lv_sub hl [2, 3, 4, 5, 6, 0] rfl) (by omega) (by omega)
def fL_there (n : Nat) (M0 : Nat → Nat → Int32) (a2 : Int32) (a3 : Int32) : Option (Int32 × (Nat → Nat → Int32)) :=
  qnm (Int32.ofNat n) fun (x_2 : Int32) =>
  fL_there_L15 n a2 a3 13 M0 (fun _ => 0) a2 a3 x_2 0
theorem qhd_L_there : yL_there.cls ≠ "java/lang/invoke/MethodHandle" ∧ yL_there.cls ≠ "java/lang/invoke/VarHandle" ∧ (parseMethodDescriptor yL_there.desc).map (fun d => d.parameters.length) = some 3 := ⟨by decide +kernel, by decide +kernel, by decide +kernel⟩
set_option maxHeartbeats 4000000 in
set_option maxRecDepth 100000 in
theorem mL_there {l : Launch} {D : va_G} {G : Nat → ClassId} {ad : Nat → Nat} {gq : Nat} {gr : Nat → Nat} {n : Nat} {M0 : Nat → Nat → Int32} {a2 : Int32} {a3 : Int32} {rF : Int32} {MF : Nat → Nat → Int32} (hJ : qInj ad) (hst : l.stackTraces = false) (hf : fL_there n M0 a2 a3 = some (rF, MF)) : lCM l D G ad yL_there (Cond.code yL_there cL_there 8 (some .int)) 2 1 5 [.ref gq, .int a2, .int a3] (lX [] [] (lgr G gq gr n M0)) (fun _ _ _ => True) (fun st => lQi D (lX [] [] (lgr G gq gr n M0)) (lX [] [] (lgr G gq gr n MF)) st rF) := by
  refine l_start RL rfl (by decide +kernel) hJ (fun a b h => by simp only [lQi, lQl, lQr, h]) (Nat.le_of_ble_eq_true rfl) ?_
  intro p e s m args below meth c ls hC hr _ hE hR hl
  have hx := hC.1
  have hb := hC.2.1
  have hl : lv_has ls 8 [(0, .ref gq), (1, .int a2), (2, .int a3)] := hl
  unfold fL_there at hf
  refine lv_iconst (v := 5) hx hb dL_there_0 (by decide) ?_
  refine l_newa (atype := .boolean) hC hR (t := 1) (N := 5) (E := .inl (fun _ => 0)) rfl qka_boolean rfl (fun cA => rfl) (by decide) (by decide) (by decide) (by show _ ≤ 1; omega) (by show _ ≤ 5; omega) dL_there_1 (fun q_1 H hR hk => ?_)
  refine lv_astore_n (lv' := [(3, .ref q_1), (0, .ref gq), (1, .int a2), (2, .int a3)]) hx hb dL_there_3 rfl hl (by decide) rfl (fun ls hl => ?_)
  refine lv_aload_n hx hb dL_there_4 rfl (lv_at hl 1 rfl) ?_
  refine lv_astore (lv' := [(4, .ref gq), (3, .ref q_1), (0, .ref gq), (1, .int a2), (2, .int a3)]) hx hb dL_there_5 hl (by decide) rfl (fun ls hl => ?_)
  refine lv_aload hx hb dL_there_7 (lv_at hl 0 rfl) ?_
  refine l_alen hC hR lgr_m0 rfl rfl dL_there_9 ?_
  refine lv_topi (fun x_2 ex_2 => ?_)
  have hf := qnm_t hf ex_2
  refine lv_istore (lv' := [(5, .int x_2), (4, .ref gq), (3, .ref q_1), (0, .ref gq), (1, .int a2), (2, .int a3)]) hx hb dL_there_10 hl (by decide) rfl (fun ls hl => ?_)
  refine lv_iconst (v := 0) hx hb dL_there_12 (by decide) ?_
  refine lv_istore (lv' := [(6, .int 0), (5, .int x_2), (4, .ref gq), (3, .ref q_1), (0, .ref gq), (1, .int a2), (2, .int a3)]) hx hb dL_there_13 hl (by decide) rfl (fun ls hl => ?_)
  exact mL_there_L15 hst hC hr 13 _ _ _ _ _ _ _ _ _ _ _ _ hf hR (lv_sub hl [5, 6, 3, 2, 1, 0] rfl) (by omega) (by omega)
def fL_shocks_L440 (n : Nat) (a2 : Int32) (k351 : ((Nat → Nat → Int32) → (Nat → Int32) → Int32 → Int32 → Int32 → Int32 → Int32 → Option ((Nat → Int32) × (Nat → Nat → Int32)))) (M : Nat → Nat → Int32) (f1 : Nat → Int32) (x1 : Int32) (x3 : Int32) (x4 : Int32) (x6 : Int32) (x7 : Int32) (j8 : Nat) (x9 : Int32) (s0 : Int32) (s1 : Int32) (js2 : Nat) : Option ((Nat → Int32) × (Nat → Nat → Int32)) :=
  if qin s1 7 = true then
  qnm (quw M js2 (s1).toNatClampNeg s0) fun (M_23 : Nat → Nat → Int32) =>
  qnm (quw M_23 j8 6 ((M_23 j8 6) + x9)) fun (M_24 : Nat → Nat → Int32) =>
  qnm (x4 + x9) fun (x_25 : Int32) =>
  qnm (x7 + 1) fun (x_26 : Int32) =>
  k351 M_24 f1 x1 x3 x_25 x6 x_26
  else none
set_option maxHeartbeats 4000000 in
set_option maxRecDepth 100000 in
theorem mL_shocks_L440 {p : Program} {l : Launch} {e : Env} {s : State} {m : MethodId} {args : Array Value} {below : List Frame} {meth : Method} {c : Code} {D : va_G} {G : Nat → ClassId} {ad : Nat → Nat} {gq : Nat} {gr : Nat → Nat} {n : Nat} {a2 : Int32} {M0 : Nat → Nat → Int32} {fF : Nat → Int32} {MF : Nat → Nat → Int32} {k351 : ((Nat → Nat → Int32) → (Nat → Int32) → Int32 → Int32 → Int32 → Int32 → Int32 → Option ((Nat → Int32) × (Nat → Nat → Int32)))} {B S : Nat} (hBM : B ≤ 28) (hSM : S ≤ 147) (hst : l.stackTraces = false) (hC : lCx p c cL_shocks 10 s m args meth RL D G ad (lX [] [] (lgr G gq gr n M0))) (hr : meth.sig.returnType = some (.array .int)) (hk351 : ∀ (M : Nat → Nat → Int32) (f1 : Nat → Int32) (x1 : Int32) (x3 : Int32) (x4 : Int32) (x6 : Int32) (x7 : Int32) (q1 : Nat) (cc cs : Nat) (H : Heap) (locs : List Loc) (ls : Array Slot), k351 M f1 x1 x3 x4 x6 x7 = some (fF, MF) → lR D (lX [] [] (lgr G gq gr n M0)) (lX [] [(q1, .inl (G 1, 5, .inl f1))] (lgr G gq gr n M)) s H locs → lv_has ls 10 [(0, .ref gq), (1, .int x1), (2, .ref q1), (3, .int x3), (4, .int x4), (5, .ref gq), (6, .int x6), (7, .int x7)] → cc ≤ B → cs ≤ S → W p l e (qrm 3 28 147) s m args below meth c H locs cc cs (MQ below (lQr (T := Unit) D ad (lX [] [] (lgr G gq gr n M0)) (fun (_ : Unit) (a : Nat) => lX [] [(a, .inl (G 0, 2, .inl fF))] (lgr G gq gr n MF)) (fun _ _ => True) (fun _ _ _ _ _ => True) s) args s 28 147 (va_A (lX [] [] (lgr G gq gr n M0)) s.heap.size)) (F0 m 351 ls [])) : ∀ (M : Nat → Nat → Int32) (f1 : Nat → Int32) (x1 : Int32) (x3 : Int32) (x4 : Int32) (x6 : Int32) (x7 : Int32) (j8 : Nat) (x9 : Int32) (s0 : Int32) (s1 : Int32) (js2 : Nat) (q1 : Nat) (hj8 : j8 < n) (hjs2 : js2 < n) (cc cs : Nat) (H : Heap) (locs : List Loc) (ls : Array Slot), fL_shocks_L440 n a2 k351 M f1 x1 x3 x4 x6 x7 j8 x9 s0 s1 js2 = some (fF, MF) → lR D (lX [] [] (lgr G gq gr n M0)) (lX [] [(q1, .inl (G 1, 5, .inl f1))] (lgr G gq gr n M)) s H locs → lv_has ls 10 [(0, .ref gq), (1, .int x1), (2, .ref q1), (3, .int x3), (4, .int x4), (5, .ref gq), (6, .int x6), (7, .int x7), (8, .ref (gr j8)), (9, .int x9)] → cc ≤ B → cs ≤ S → cc ≤ 28 → cs ≤ 147 → W p l e (qrm 3 28 147) s m args below meth c H locs cc cs (MQ below (lQr (T := Unit) D ad (lX [] [] (lgr G gq gr n M0)) (fun (_ : Unit) (a : Nat) => lX [] [(a, .inl (G 0, 2, .inl fF))] (lgr G gq gr n MF)) (fun _ _ => True) (fun _ _ _ _ _ => True) s) args s 28 147 (va_A (lX [] [] (lgr G gq gr n M0)) s.heap.size)) (F0 m 440 ls [.int s0, .int s1, .ref (gr js2)]) := by
  have hx := hC.1
  have hb := hC.2.1
  have hJ := hC.2.2.2.2.2.2.2.1
  intro M f1 x1 x3 x4 x6 x7 j8 x9 s0 s1 js2 q1 hj8 hjs2 cc cs H locs ls hf hR hl hcB hsB hcM hsM
  unfold fL_shocks_L440 at hf
  obtain ⟨g_22, hf⟩ := qgd hf
  refine l_rst hC hR hjs2 (j := (s1).toNatClampNeg) g_22 rfl dL_shocks_440 (fun H locs hR => ?_)
  obtain ⟨M_23, eM_23⟩ : ∃ y : Nat → Nat → Int32, y = quw M js2 (s1).toNatClampNeg s0 := ⟨_, rfl⟩
  have hf := qnm_t hf eM_23
  rw [← eM_23] at hR
  refine lv_aload hx hb dL_shocks_441 (lv_at hl 8 rfl) ?_
  refine lv_bipush (v := 6) hx hb dL_shocks_443 (by decide) ?_
  refine lv_dup2_11 hx hb dL_shocks_445 rfl rfl ?_
  refine l_ild hC hR (lgr_mr hj8) (j := 6) (by decide) (by decide) dL_shocks_446 ?_
  refine lv_iload hx hb dL_shocks_447 (lv_at hl 9 rfl) ?_
  refine lv_iadd hx hb dL_shocks_449 ?_
  refine l_rst hC hR hj8 (j := 6) (by decide) (by decide) dL_shocks_450 (fun H locs hR => ?_)
  obtain ⟨M_24, eM_24⟩ : ∃ y : Nat → Nat → Int32, y = quw M_23 j8 6 ((M_23 j8 6) + x9) := ⟨_, rfl⟩
  have hf := qnm_t hf eM_24
  rw [← eM_24] at hR
  refine lv_iload hx hb dL_shocks_451 (lv_at hl 4 rfl) ?_
  refine lv_iload hx hb dL_shocks_453 (lv_at hl 9 rfl) ?_
  refine lv_iadd hx hb dL_shocks_455 ?_
  refine lv_topi (fun x_25 ex_25 => ?_)
  have hf := qnm_t hf ex_25
  refine lv_istore (lv' := [(4, .int x_25), (0, .ref gq), (1, .int x1), (2, .ref q1), (3, .int x3), (5, .ref gq), (6, .int x6), (7, .int x7), (8, .ref (gr j8)), (9, .int x9)]) hx hb dL_shocks_456 hl (by decide) rfl (fun ls hl => ?_)
  obtain ⟨x_26, ex_26⟩ : ∃ y : Int32, y = x7 + 1 := ⟨_, rfl⟩
  have hf := qnm_t hf ex_26
  refine lv_iinc (v := x_26) (lv' := [(7, .int x_26), (4, .int x_25), (0, .ref gq), (1, .int x1), (2, .ref q1), (3, .int x3), (5, .ref gq), (6, .int x6), (8, .ref (gr j8)), (9, .int x9)]) hx hb dL_shocks_458 hl (k := 7) rfl (by rw [ex_26]; rfl) (by decide) rfl (fun ls hl => ?_)
  refine lv_goto (tgt := 351) hx hb dL_shocks_461 (by decide) ?_
  exact hk351 _ _ _ _ _ _ _ _ _ _ _ _ _ hf hR (lv_sub hl [2, 3, 4, 5, 1, 6, 7, 0] rfl) (by omega) (by omega)
def fL_shocks_L409 (n : Nat) (a2 : Int32) (k351 : ((Nat → Nat → Int32) → (Nat → Int32) → Int32 → Int32 → Int32 → Int32 → Int32 → Option ((Nat → Int32) × (Nat → Nat → Int32)))) (M : Nat → Nat → Int32) (f1 : Nat → Int32) (x1 : Int32) (x3 : Int32) (x4 : Int32) (x6 : Int32) (x7 : Int32) (j8 : Nat) (s0 : Int32) : Option ((Nat → Int32) × (Nat → Nat → Int32)) :=
  if qin (M j8 1) 5 = true then
  if f1 (M j8 1).toNatClampNeg = 0 then
    fL_shocks_L440 n a2 k351 M f1 x1 x3 x4 x6 x7 j8 s0 (M j8 2) 2 j8
  else
    qnm (if (0 : Int32) < (M j8 2) - 1 then (M j8 2) - 1 else 0) fun (x_27 : Int32) =>
    fL_shocks_L440 n a2 k351 M f1 x1 x3 x4 x6 x7 j8 s0 x_27 2 j8
  else none
set_option maxHeartbeats 4000000 in
set_option maxRecDepth 100000 in
theorem mL_shocks_L409 {p : Program} {l : Launch} {e : Env} {s : State} {m : MethodId} {args : Array Value} {below : List Frame} {meth : Method} {c : Code} {D : va_G} {G : Nat → ClassId} {ad : Nat → Nat} {gq : Nat} {gr : Nat → Nat} {n : Nat} {a2 : Int32} {M0 : Nat → Nat → Int32} {fF : Nat → Int32} {MF : Nat → Nat → Int32} {k351 : ((Nat → Nat → Int32) → (Nat → Int32) → Int32 → Int32 → Int32 → Int32 → Int32 → Option ((Nat → Int32) × (Nat → Nat → Int32)))} {B S : Nat} (hBM : B ≤ 28) (hSM : S ≤ 147) (hst : l.stackTraces = false) (hC : lCx p c cL_shocks 10 s m args meth RL D G ad (lX [] [] (lgr G gq gr n M0))) (hr : meth.sig.returnType = some (.array .int)) (hk351 : ∀ (M : Nat → Nat → Int32) (f1 : Nat → Int32) (x1 : Int32) (x3 : Int32) (x4 : Int32) (x6 : Int32) (x7 : Int32) (q1 : Nat) (cc cs : Nat) (H : Heap) (locs : List Loc) (ls : Array Slot), k351 M f1 x1 x3 x4 x6 x7 = some (fF, MF) → lR D (lX [] [] (lgr G gq gr n M0)) (lX [] [(q1, .inl (G 1, 5, .inl f1))] (lgr G gq gr n M)) s H locs → lv_has ls 10 [(0, .ref gq), (1, .int x1), (2, .ref q1), (3, .int x3), (4, .int x4), (5, .ref gq), (6, .int x6), (7, .int x7)] → cc ≤ B → cs ≤ S → W p l e (qrm 3 28 147) s m args below meth c H locs cc cs (MQ below (lQr (T := Unit) D ad (lX [] [] (lgr G gq gr n M0)) (fun (_ : Unit) (a : Nat) => lX [] [(a, .inl (G 0, 2, .inl fF))] (lgr G gq gr n MF)) (fun _ _ => True) (fun _ _ _ _ _ => True) s) args s 28 147 (va_A (lX [] [] (lgr G gq gr n M0)) s.heap.size)) (F0 m 351 ls [])) : ∀ (M : Nat → Nat → Int32) (f1 : Nat → Int32) (x1 : Int32) (x3 : Int32) (x4 : Int32) (x6 : Int32) (x7 : Int32) (j8 : Nat) (s0 : Int32) (q1 : Nat) (hj8 : j8 < n) (cc cs : Nat) (H : Heap) (locs : List Loc) (ls : Array Slot), fL_shocks_L409 n a2 k351 M f1 x1 x3 x4 x6 x7 j8 s0 = some (fF, MF) → lR D (lX [] [] (lgr G gq gr n M0)) (lX [] [(q1, .inl (G 1, 5, .inl f1))] (lgr G gq gr n M)) s H locs → lv_has ls 10 [(0, .ref gq), (1, .int x1), (2, .ref q1), (3, .int x3), (4, .int x4), (5, .ref gq), (6, .int x6), (7, .int x7), (8, .ref (gr j8))] → cc ≤ B → cs ≤ S → cc ≤ 28 → cs ≤ 147 → W p l e (qrm 3 28 147) s m args below meth c H locs cc cs (MQ below (lQr (T := Unit) D ad (lX [] [] (lgr G gq gr n M0)) (fun (_ : Unit) (a : Nat) => lX [] [(a, .inl (G 0, 2, .inl fF))] (lgr G gq gr n MF)) (fun _ _ => True) (fun _ _ _ _ _ => True) s) args s 28 147 (va_A (lX [] [] (lgr G gq gr n M0)) s.heap.size)) (F0 m 409 ls [.int s0]) := by
  have hx := hC.1
  have hb := hC.2.1
  have hJ := hC.2.2.2.2.2.2.2.1
  intro M f1 x1 x3 x4 x6 x7 j8 s0 q1 hj8 cc cs H locs ls hf hR hl hcB hsB hcM hsM
  unfold fL_shocks_L409 at hf
  refine lv_istore (lv' := [(9, .int s0), (0, .ref gq), (1, .int x1), (2, .ref q1), (3, .int x3), (4, .int x4), (5, .ref gq), (6, .int x6), (7, .int x7), (8, .ref (gr j8))]) hx hb dL_shocks_409 hl (by decide) rfl (fun ls hl => ?_)
  refine lv_aload hx hb dL_shocks_411 (lv_at hl 9 rfl) ?_
  refine lv_iconst (v := 2) hx hb dL_shocks_413 (by decide) ?_
  refine lv_aload_n hx hb dL_shocks_414 rfl (lv_at hl 3 rfl) ?_
  refine lv_aload hx hb dL_shocks_415 (lv_at hl 9 rfl) ?_
  refine lv_iconst (v := 1) hx hb dL_shocks_417 (by decide) ?_
  refine l_ild hC hR (lgr_mr hj8) (j := 1) (by decide) (by decide) dL_shocks_418 ?_
  obtain ⟨g_20, hf⟩ := qgd hf
  refine l_zld hC hR (lX_mx 0 rfl) (j := (M j8 1).toNatClampNeg) g_20 rfl dL_shocks_419 ?_
  refine lv_if_eq (tgt := 436) hx hb dL_shocks_420 (by decide) (fun c__21 => ?_) (fun c__21 => ?_)
  · have hf := qif_t hf c__21
    refine lv_aload hx hb dL_shocks_436 (lv_at hl 9 rfl) ?_
    refine lv_iconst (v := 2) hx hb dL_shocks_438 (by decide) ?_
    refine l_ild hC hR (lgr_mr hj8) (j := 2) (by decide) (by decide) dL_shocks_439 ?_
    exact mL_shocks_L440 (B := B) (S := S) hBM hSM hst hC hr hk351 _ _ _ _ _ _ _ _ _ _ _ _ _ hj8 hj8 _ _ _ _ _ hf hR (lv_sub hl [1, 2, 3, 4, 5, 6, 7, 8, 9, 0] rfl) (by omega) (by omega) (by omega) (by omega)
  · have hf := qif_f hf c__21
    refine lv_iconst (v := 0) hx hb dL_shocks_423 (by decide) ?_
    refine lv_aload hx hb dL_shocks_424 (lv_at hl 9 rfl) ?_
    refine lv_iconst (v := 2) hx hb dL_shocks_426 (by decide) ?_
    refine l_ild hC hR (lgr_mr hj8) (j := 2) (by decide) (by decide) dL_shocks_427 ?_
    refine lv_iconst (v := 1) hx hb dL_shocks_428 (by decide) ?_
    refine lv_isub hx hb dL_shocks_429 ?_
    refine va_mmax hx hb (hC.2.2.1.trans hl.1.symm) hC.2.2.2.1 (hC.2.2.2.2.1 _ qkl_662) (hC.2.2.2.2.1 _ qk_663) (hC.2.2.2.2.1 _ qk_25) (hC.2.2.2.2.1 _ qk_664) (Nat.le_of_ble_eq_true rfl) (Nat.le_of_ble_eq_true rfl) (by show _ ≤ 28; omega) (by show _ ≤ 147; omega) dL_shocks_430 ?_
    refine lv_topi (fun x_27 ex_27 => ?_)
    have hf := qnm_t hf ex_27
    refine lv_goto (tgt := 440) hx hb dL_shocks_433 (by decide) ?_
    exact mL_shocks_L440 (B := B) (S := S) hBM hSM hst hC hr hk351 _ _ _ _ _ _ _ _ _ _ _ _ _ hj8 hj8 _ _ _ _ _ hf hR (lv_sub hl [1, 2, 3, 4, 5, 6, 7, 8, 9, 0] rfl) (by omega) (by omega) (by omega) (by omega)
def fL_shocks_L351 (n : Nat) (a2 : Int32)  : Nat → (Nat → Nat → Int32) → (Nat → Int32) → Int32 → Int32 → Int32 → Int32 → Int32 → Option ((Nat → Int32) × (Nat → Nat → Int32))
  | 0, _, _, _, _, _, _, _ => none
  | k + 1, M, f1, x1, x3, x4, x6, x7 =>
    if x6 ≤ x7 then
      qnm (upd (fun _ => 0) 0 x4) fun (f_7 : Nat → Int32) =>
      qnm (upd f_7 1 x3) fun (f_8 : Nat → Int32) =>
      some (f_8, M)
    else
      if qin x7 n = true then
      qnm ((x7).toNatClampNeg) fun (j_10 : Nat) =>
      if M j_10 0 = 3 then
        if qin (M j_10 1) 5 = true then
        if f1 (M j_10 1).toNatClampNeg = 0 then
          qbd2 (fL_there n M x1 (M j_10 1)) fun (r_16 : Int32) (M_17 : Nat → Nat → Int32) =>
          qnm (if 0 ≤ (M j_10 2) - r_16 then (M j_10 2) - r_16 else 0 - ((M j_10 2) - r_16)) fun (x_18 : Int32) =>
          qnm (if (0 : Int32) < (5 : Int32) - x_18 then (5 : Int32) - x_18 else 0) fun (x_19 : Int32) =>
          fL_shocks_L409 n a2 (fL_shocks_L351 n a2 k) M_17 f1 x1 x3 x4 x6 x7 j_10 x_19
        else
          fL_shocks_L409 n a2 (fL_shocks_L351 n a2 k) M f1 x1 x3 x4 x6 x7 j_10 0
        else none
      else
        qnm (x7 + 1) fun (x_12 : Int32) =>
        fL_shocks_L351 n a2 k M f1 x1 x3 x4 x6 x_12
      else none
set_option maxHeartbeats 4000000 in
set_option maxRecDepth 100000 in
theorem mL_shocks_L351 {p : Program} {l : Launch} {e : Env} {s : State} {m : MethodId} {args : Array Value} {below : List Frame} {meth : Method} {c : Code} {D : va_G} {G : Nat → ClassId} {ad : Nat → Nat} {gq : Nat} {gr : Nat → Nat} {n : Nat} {a2 : Int32} {M0 : Nat → Nat → Int32} {fF : Nat → Int32} {MF : Nat → Nat → Int32} (hst : l.stackTraces = false) (hC : lCx p c cL_shocks 10 s m args meth RL D G ad (lX [] [] (lgr G gq gr n M0))) (hr : meth.sig.returnType = some (.array .int)) : ∀ (k : Nat), ∀ (M : Nat → Nat → Int32) (f1 : Nat → Int32) (x1 : Int32) (x3 : Int32) (x4 : Int32) (x6 : Int32) (x7 : Int32) (q1 : Nat) (cc cs : Nat) (H : Heap) (locs : List Loc) (ls : Array Slot), fL_shocks_L351 n a2 k M f1 x1 x3 x4 x6 x7 = some (fF, MF) → lR D (lX [] [] (lgr G gq gr n M0)) (lX [] [(q1, .inl (G 1, 5, .inl f1))] (lgr G gq gr n M)) s H locs → lv_has ls 10 [(0, .ref gq), (1, .int x1), (2, .ref q1), (3, .int x3), (4, .int x4), (5, .ref gq), (6, .int x6), (7, .int x7)] → cc + 1 * k + 1 ≤ 28 → cs + 5 * k + 12 ≤ 147 → W p l e (qrm 3 28 147) s m args below meth c H locs cc cs (MQ below (lQr (T := Unit) D ad (lX [] [] (lgr G gq gr n M0)) (fun (_ : Unit) (a : Nat) => lX [] [(a, .inl (G 0, 2, .inl fF))] (lgr G gq gr n MF)) (fun _ _ => True) (fun _ _ _ _ _ => True) s) args s 28 147 (va_A (lX [] [] (lgr G gq gr n M0)) s.heap.size)) (F0 m 351 ls []) := by
  have hx := hC.1
  have hb := hC.2.1
  have hJ := hC.2.2.2.2.2.2.2.1
  intro k
  induction k with
  | zero => intro M f1 x1 x3 x4 x6 x7 q1 cc cs H locs ls hf; exact nomatch (show (none : Option ((Nat → Int32) × (Nat → Nat → Int32))) = some _ from hf)
  | succ k ih =>
    intro M f1 x1 x3 x4 x6 x7 q1 cc cs H locs ls hf hR hl hcM hsM
    rw [fL_shocks_L351] at hf
    refine lv_iload hx hb dL_shocks_351 (lv_at hl 7 rfl) ?_
    refine lv_iload hx hb dL_shocks_353 (lv_at hl 6 rfl) ?_
    refine lv_icmp_ge (tgt := 464) hx hb dL_shocks_355 (by decide) (fun c__5 => ?_) (fun c__5 => ?_)
    · have hf := qif_t hf c__5
      refine lv_iconst (v := 2) hx hb dL_shocks_464 (by decide) ?_
      refine l_newa (atype := .int) hC hR (t := 0) (N := 2) (E := .inl (fun _ => 0)) rfl qka_int rfl (fun cA => rfl) (by decide) (by decide) (by decide) (by show _ ≤ 28; omega) (by show _ ≤ 147; omega) dL_shocks_465 (fun q_6 H hR hk => ?_)
      refine lv_dup hx hb dL_shocks_467 rfl ?_
      refine lv_iconst (v := 0) hx hb dL_shocks_468 (by decide) ?_
      refine lv_iload hx hb dL_shocks_469 (lv_at hl 4 rfl) ?_
      refine l_ist hC hR 0 rfl (j := 0) (by decide) (by decide) dL_shocks_471 (fun H locs hR => ?_)
      obtain ⟨f_7, ef_7⟩ : ∃ y : Nat → Int32, y = upd (fun _ => 0) 0 x4 := ⟨_, rfl⟩
      have hf := qnm_t hf ef_7
      have hR : lR D (lX [] [] (lgr G gq gr n M0)) (lX [] [(q_6, .inl (G 0, 2, .inl f_7)), (q1, .inl (G 1, 5, .inl f1))] (lgr G gq gr n M)) s H locs := by rw [ef_7]; exact hR
      refine lv_dup hx hb dL_shocks_472 rfl ?_
      refine lv_iconst (v := 1) hx hb dL_shocks_473 (by decide) ?_
      refine lv_iload_n hx hb dL_shocks_474 rfl (lv_at hl 3 rfl) ?_
      refine l_ist hC hR 0 rfl (j := 1) (by decide) (by decide) dL_shocks_475 (fun H locs hR => ?_)
      obtain ⟨f_8, ef_8⟩ : ∃ y : Nat → Int32, y = upd f_7 1 x3 := ⟨_, rfl⟩
      have hf := qnm_t hf ef_8
      have hR : lR D (lX [] [] (lgr G gq gr n M0)) (lX [] [(q_6, .inl (G 0, 2, .inl f_8)), (q1, .inl (G 1, 5, .inl f1))] (lgr G gq gr n M)) s H locs := by rw [ef_8]; exact hR
      have hR := lR_pick hR [0] (ex1 := [(q_6, .inl (G 0, 2, .inl f_8))]) (g1 := (lgr G gq gr n M)) (by decide) rfl (Or.inl rfl)
      obtain ⟨e1, e2⟩ := qso2 hf
      exact l_aret (X1 := (fun (_ : Unit) (a : Nat) => lX [] [(a, .inl (G 0, 2, .inl fF))] (lgr G gq gr n MF))) () hC hR hr (Or.inr ⟨_, rfl⟩) trivial (by rw [e1, e2]) (fun _ _ _ _ _ _ _ _ _ _ => trivial) trivial dL_shocks_476 (by omega) (by omega)
    · have hf := qif_f hf c__5
      refine lv_aload hx hb dL_shocks_358 (lv_at hl 5 rfl) ?_
      refine lv_iload hx hb dL_shocks_360 (lv_at hl 7 rfl) ?_
      obtain ⟨g_9, hf⟩ := qgd hf
      obtain ⟨j_10, ej_10⟩ : ∃ y : Nat, y = (x7).toNatClampNeg := ⟨_, rfl⟩
      have hf := qnm_t hf ej_10
      have hj_10 : j_10 < n := by rw [ej_10]; exact lq_lt g_9
      refine l_ald hC hR lgr_m0 (j := j_10) g_9 ej_10.symm dL_shocks_362 ?_
      refine lv_astore (lv' := [(8, .ref (gr j_10)), (0, .ref gq), (1, .int x1), (2, .ref q1), (3, .int x3), (4, .int x4), (5, .ref gq), (6, .int x6), (7, .int x7)]) hx hb dL_shocks_363 hl (by decide) rfl (fun ls hl => ?_)
      refine lv_aload hx hb dL_shocks_365 (lv_at hl 0 rfl) ?_
      refine lv_iconst (v := 0) hx hb dL_shocks_367 (by decide) ?_
      refine l_ild hC hR (lgr_mr hj_10) (j := 0) (by decide) (by decide) dL_shocks_368 ?_
      refine lv_iconst (v := 3) hx hb dL_shocks_369 (by decide) ?_
      refine lv_icmp_ne (tgt := 458) hx hb dL_shocks_370 (by decide) (fun c__11 => ?_) (fun c__11 => ?_)
      · have hf := qif_f hf c__11
        obtain ⟨x_12, ex_12⟩ : ∃ y : Int32, y = x7 + 1 := ⟨_, rfl⟩
        have hf := qnm_t hf ex_12
        refine lv_iinc (v := x_12) (lv' := [(7, .int x_12), (8, .ref (gr j_10)), (0, .ref gq), (1, .int x1), (2, .ref q1), (3, .int x3), (4, .int x4), (5, .ref gq), (6, .int x6)]) hx hb dL_shocks_458 hl (k := 8) rfl (by rw [ex_12]; rfl) (by decide) rfl (fun ls hl => ?_)
        refine lv_goto (tgt := 351) hx hb dL_shocks_461 (by decide) ?_
        exact ih _ _ _ _ _ _ _ _ _ _ _ _ _ hf hR (lv_sub hl [2, 3, 4, 5, 6, 7, 8, 0] rfl) (by omega) (by omega)
      · have hf := qif_t hf c__11
        refine lv_aload_n hx hb dL_shocks_373 rfl (lv_at hl 3 rfl) ?_
        refine lv_aload hx hb dL_shocks_374 (lv_at hl 0 rfl) ?_
        refine lv_iconst (v := 1) hx hb dL_shocks_376 (by decide) ?_
        refine l_ild hC hR (lgr_mr hj_10) (j := 1) (by decide) (by decide) dL_shocks_377 ?_
        obtain ⟨g_13, hf⟩ := qgd hf
        refine l_zld hC hR (lX_mx 0 rfl) (j := (M j_10 1).toNatClampNeg) g_13 rfl dL_shocks_378 ?_
        refine lv_if_eq (tgt := 386) hx hb dL_shocks_379 (by decide) (fun c__14 => ?_) (fun c__14 => ?_)
        · have hf := qif_t hf c__14
          refine lv_iconst (v := 0) hx hb dL_shocks_386 (by decide) ?_
          refine lv_iconst (v := 5) hx hb dL_shocks_387 (by decide) ?_
          refine lv_aload hx hb dL_shocks_388 (lv_at hl 0 rfl) ?_
          refine lv_iconst (v := 2) hx hb dL_shocks_390 (by decide) ?_
          refine l_ild hC hR (lgr_mr hj_10) (j := 2) (by decide) (by decide) dL_shocks_391 ?_
          refine lv_aload_n hx hb dL_shocks_392 rfl (lv_at hl 1 rfl) ?_
          refine lv_iload_n hx hb dL_shocks_393 rfl (lv_at hl 2 rfl) ?_
          refine lv_aload hx hb dL_shocks_394 (lv_at hl 0 rfl) ?_
          refine lv_iconst (v := 1) hx hb dL_shocks_396 (by decide) ?_
          refine l_ild hC hR (lgr_mr hj_10) (j := 1) (by decide) (by decide) dL_shocks_397 ?_
          obtain ⟨r_16, M_17, hq_15, hf⟩ := qbd2_s hf
          refine l_callSi hC hR (mL_there hJ hst hq_15) lNo_k trivial lp_GR lp_GR1 qkl_659 qkl_660 qkl_18 qkl_661 qhd_L_there ⟨Nat.le_of_ble_eq_true rfl, Nat.le_of_ble_eq_true rfl⟩ hl.1 rfl (Nat.le_of_ble_eq_true rfl) dL_shocks_398 ⟨by show _ ≤ 28; omega, by show _ ≤ 147; omega⟩ (fun H locs hR hk => ?_)
          refine lv_isub hx hb dL_shocks_401 ?_
          refine va_mabs hx hb (hC.2.2.1.trans hl.1.symm) hC.2.2.2.1 (hC.2.2.2.2.1 _ qkl_685) (hC.2.2.2.2.1 _ qk_402) (hC.2.2.2.2.1 _ qk_25) (hC.2.2.2.2.1 _ qk_403) (Nat.le_of_ble_eq_true rfl) (Nat.le_of_ble_eq_true rfl) (by show _ ≤ 28; omega) (by show _ ≤ 147; omega) dL_shocks_402 ?_
          refine lv_topi (fun x_18 ex_18 => ?_)
          have hf := qnm_t hf ex_18
          refine lv_isub hx hb dL_shocks_405 ?_
          refine va_mmax hx hb (hC.2.2.1.trans hl.1.symm) hC.2.2.2.1 (hC.2.2.2.2.1 _ qkl_662) (hC.2.2.2.2.1 _ qk_663) (hC.2.2.2.2.1 _ qk_25) (hC.2.2.2.2.1 _ qk_664) (Nat.le_of_ble_eq_true rfl) (Nat.le_of_ble_eq_true rfl) (by show _ ≤ 28; omega) (by show _ ≤ 147; omega) dL_shocks_406 ?_
          refine lv_topi (fun x_19 ex_19 => ?_)
          have hf := qnm_t hf ex_19
          exact mL_shocks_L409 (B := cc + 1) (S := cs + 5) (by omega) (by omega) hst hC hr (fun y0 y1 y2 y3 y4 y5 y6 y7 cc2 cs2 H2 locs2 ls2 hf2 hR2 hl2 hc2 hs2 => ih y0 y1 y2 y3 y4 y5 y6 y7 cc2 cs2 H2 locs2 ls2 hf2 hR2 hl2 (by omega) (by omega)) _ _ _ _ _ _ _ _ _ _ hj_10 _ _ _ _ _ hf hR (lv_sub hl [1, 2, 3, 4, 5, 6, 7, 8, 0] rfl) (by omega) (by omega) (by omega) (by omega)
        · have hf := qif_f hf c__14
          refine lv_iconst (v := 0) hx hb dL_shocks_382 (by decide) ?_
          refine lv_goto (tgt := 409) hx hb dL_shocks_383 (by decide) ?_
          exact mL_shocks_L409 (B := cc + 1) (S := cs + 5) (by omega) (by omega) hst hC hr (fun y0 y1 y2 y3 y4 y5 y6 y7 cc2 cs2 H2 locs2 ls2 hf2 hR2 hl2 hc2 hs2 => ih y0 y1 y2 y3 y4 y5 y6 y7 cc2 cs2 H2 locs2 ls2 hf2 hR2 hl2 (by omega) (by omega)) _ _ _ _ _ _ _ _ _ _ hj_10 _ _ _ _ _ hf hR (lv_sub hl [1, 2, 3, 4, 5, 6, 7, 8, 0] rfl) (by omega) (by omega) (by omega) (by omega)
def fL_shocks_L295 (n : Nat) (a2 : Int32) (k17 : ((Nat → Nat → Int32) → (Nat → Int32) → Int32 → Int32 → Int32 → Int32 → Option ((Nat → Int32) × (Nat → Nat → Int32)))) (M : Nat → Nat → Int32) (f1 : Nat → Int32) (x1 : Int32) (x3 : Int32) (x5 : Int32) (x6 : Int32) (j7 : Nat) (s0 : Int32) (s1 : Int32) (js2 : Nat) : Option ((Nat → Int32) × (Nat → Nat → Int32)) :=
  if qin s1 7 = true then
  qnm (quw M js2 (s1).toNatClampNeg s0) fun (M_47 : Nat → Nat → Int32) =>
  qnm (x3 + (M_47 j7 4)) fun (x_48 : Int32) =>
  if qin (M_47 j7 1) 5 = true then
  if f1 (M_47 j7 1).toNatClampNeg = 0 then
    if M_47 j7 4 = 1 then
      if qin (M_47 j7 1) 5 = true then
      qnm (upd f1 (M_47 j7 1).toNatClampNeg 1) fun (f_59 : Nat → Int32) =>
      qnm (x6 + 1) fun (x_60 : Int32) =>
      k17 M_47 f_59 x1 x_48 x5 x_60
      else none
    else
      if qin (M_47 j7 1) 5 = true then
      qnm (upd f1 (M_47 j7 1).toNatClampNeg 0) fun (f_56 : Nat → Int32) =>
      qnm (x6 + 1) fun (x_57 : Int32) =>
      k17 M_47 f_56 x1 x_48 x5 x_57
      else none
  else
    if qin (M_47 j7 1) 5 = true then
    qnm (upd f1 (M_47 j7 1).toNatClampNeg 1) fun (f_52 : Nat → Int32) =>
    qnm (x6 + 1) fun (x_53 : Int32) =>
    k17 M_47 f_52 x1 x_48 x5 x_53
    else none
  else none
  else none
set_option maxHeartbeats 4000000 in
set_option maxRecDepth 100000 in
theorem mL_shocks_L295 {p : Program} {l : Launch} {e : Env} {s : State} {m : MethodId} {args : Array Value} {below : List Frame} {meth : Method} {c : Code} {D : va_G} {G : Nat → ClassId} {ad : Nat → Nat} {gq : Nat} {gr : Nat → Nat} {n : Nat} {a2 : Int32} {M0 : Nat → Nat → Int32} {fF : Nat → Int32} {MF : Nat → Nat → Int32} {k17 : ((Nat → Nat → Int32) → (Nat → Int32) → Int32 → Int32 → Int32 → Int32 → Option ((Nat → Int32) × (Nat → Nat → Int32)))} {B S : Nat} (hBM : B ≤ 28) (hSM : S ≤ 147) (hst : l.stackTraces = false) (hC : lCx p c cL_shocks 10 s m args meth RL D G ad (lX [] [] (lgr G gq gr n M0))) (hr : meth.sig.returnType = some (.array .int)) (hk17 : ∀ (M : Nat → Nat → Int32) (f1 : Nat → Int32) (x1 : Int32) (x3 : Int32) (x5 : Int32) (x6 : Int32) (q1 : Nat) (cc cs : Nat) (H : Heap) (locs : List Loc) (ls : Array Slot), k17 M f1 x1 x3 x5 x6 = some (fF, MF) → lR D (lX [] [] (lgr G gq gr n M0)) (lX [] [(q1, .inl (G 1, 5, .inl f1))] (lgr G gq gr n M)) s H locs → lv_has ls 10 [(0, .ref gq), (1, .int x1), (2, .ref q1), (3, .int x3), (4, .ref gq), (5, .int x5), (6, .int x6)] → cc ≤ B → cs ≤ S → W p l e (qrm 3 28 147) s m args below meth c H locs cc cs (MQ below (lQr (T := Unit) D ad (lX [] [] (lgr G gq gr n M0)) (fun (_ : Unit) (a : Nat) => lX [] [(a, .inl (G 0, 2, .inl fF))] (lgr G gq gr n MF)) (fun _ _ => True) (fun _ _ _ _ _ => True) s) args s 28 147 (va_A (lX [] [] (lgr G gq gr n M0)) s.heap.size)) (F0 m 17 ls [])) : ∀ (M : Nat → Nat → Int32) (f1 : Nat → Int32) (x1 : Int32) (x3 : Int32) (x5 : Int32) (x6 : Int32) (j7 : Nat) (s0 : Int32) (s1 : Int32) (js2 : Nat) (q1 : Nat) (hj7 : j7 < n) (hjs2 : js2 < n) (cc cs : Nat) (H : Heap) (locs : List Loc) (ls : Array Slot), fL_shocks_L295 n a2 k17 M f1 x1 x3 x5 x6 j7 s0 s1 js2 = some (fF, MF) → lR D (lX [] [] (lgr G gq gr n M0)) (lX [] [(q1, .inl (G 1, 5, .inl f1))] (lgr G gq gr n M)) s H locs → lv_has ls 10 [(0, .ref gq), (1, .int x1), (2, .ref q1), (3, .int x3), (4, .ref gq), (5, .int x5), (6, .int x6), (7, .ref (gr j7))] → cc ≤ B → cs ≤ S → cc ≤ 28 → cs ≤ 147 → W p l e (qrm 3 28 147) s m args below meth c H locs cc cs (MQ below (lQr (T := Unit) D ad (lX [] [] (lgr G gq gr n M0)) (fun (_ : Unit) (a : Nat) => lX [] [(a, .inl (G 0, 2, .inl fF))] (lgr G gq gr n MF)) (fun _ _ => True) (fun _ _ _ _ _ => True) s) args s 28 147 (va_A (lX [] [] (lgr G gq gr n M0)) s.heap.size)) (F0 m 295 ls [.int s0, .int s1, .ref (gr js2)]) := by
  have hx := hC.1
  have hb := hC.2.1
  have hJ := hC.2.2.2.2.2.2.2.1
  intro M f1 x1 x3 x5 x6 j7 s0 s1 js2 q1 hj7 hjs2 cc cs H locs ls hf hR hl hcB hsB hcM hsM
  unfold fL_shocks_L295 at hf
  obtain ⟨g_46, hf⟩ := qgd hf
  refine l_rst hC hR hjs2 (j := (s1).toNatClampNeg) g_46 rfl dL_shocks_295 (fun H locs hR => ?_)
  obtain ⟨M_47, eM_47⟩ : ∃ y : Nat → Nat → Int32, y = quw M js2 (s1).toNatClampNeg s0 := ⟨_, rfl⟩
  have hf := qnm_t hf eM_47
  rw [← eM_47] at hR
  refine lv_iload_n hx hb dL_shocks_296 rfl (lv_at hl 3 rfl) ?_
  refine lv_aload hx hb dL_shocks_297 (lv_at hl 7 rfl) ?_
  refine lv_iconst (v := 4) hx hb dL_shocks_299 (by decide) ?_
  refine l_ild hC hR (lgr_mr hj7) (j := 4) (by decide) (by decide) dL_shocks_300 ?_
  refine lv_iadd hx hb dL_shocks_301 ?_
  refine lv_topi (fun x_48 ex_48 => ?_)
  have hf := qnm_t hf ex_48
  refine lv_istore_n (lv' := [(3, .int x_48), (0, .ref gq), (1, .int x1), (2, .ref q1), (4, .ref gq), (5, .int x5), (6, .int x6), (7, .ref (gr j7))]) hx hb dL_shocks_302 rfl hl (by decide) rfl (fun ls hl => ?_)
  refine lv_aload_n hx hb dL_shocks_303 rfl (lv_at hl 3 rfl) ?_
  refine lv_aload hx hb dL_shocks_304 (lv_at hl 7 rfl) ?_
  refine lv_iconst (v := 1) hx hb dL_shocks_306 (by decide) ?_
  refine l_ild hC hR (lgr_mr hj7) (j := 1) (by decide) (by decide) dL_shocks_307 ?_
  refine lv_aload_n hx hb dL_shocks_308 rfl (lv_at hl 3 rfl) ?_
  refine lv_aload hx hb dL_shocks_309 (lv_at hl 7 rfl) ?_
  refine lv_iconst (v := 1) hx hb dL_shocks_311 (by decide) ?_
  refine l_ild hC hR (lgr_mr hj7) (j := 1) (by decide) (by decide) dL_shocks_312 ?_
  obtain ⟨g_49, hf⟩ := qgd hf
  refine l_zld hC hR (lX_mx 0 rfl) (j := (M_47 j7 1).toNatClampNeg) g_49 rfl dL_shocks_313 ?_
  refine lv_if_ne (tgt := 325) hx hb dL_shocks_314 (by decide) (fun c__50 => ?_) (fun c__50 => ?_)
  · have hf := qif_f hf c__50
    refine lv_iconst (v := 1) hx hb dL_shocks_325 (by decide) ?_
    refine lv_goto (tgt := 330) hx hb dL_shocks_326 (by decide) ?_
    obtain ⟨g_51, hf⟩ := qgd hf
    refine l_zst hC hR 0 rfl (j := (M_47 j7 1).toNatClampNeg) g_51 rfl (by decide) dL_shocks_330 (fun H locs hR => ?_)
    obtain ⟨f_52, ef_52⟩ : ∃ y : Nat → Int32, y = upd f1 (M_47 j7 1).toNatClampNeg 1 := ⟨_, rfl⟩
    have hf := qnm_t hf ef_52
    have hR : lR D (lX [] [] (lgr G gq gr n M0)) (lX [] [(q1, .inl (G 1, 5, .inl f_52))] (lgr G gq gr n M_47)) s H locs := by rw [ef_52]; exact hR
    obtain ⟨x_53, ex_53⟩ : ∃ y : Int32, y = x6 + 1 := ⟨_, rfl⟩
    have hf := qnm_t hf ex_53
    refine lv_iinc (v := x_53) (lv' := [(6, .int x_53), (3, .int x_48), (0, .ref gq), (1, .int x1), (2, .ref q1), (4, .ref gq), (5, .int x5), (7, .ref (gr j7))]) hx hb dL_shocks_331 hl (k := 6) rfl (by rw [ex_53]; rfl) (by decide) rfl (fun ls hl => ?_)
    refine lv_goto (tgt := 17) hx hb dL_shocks_334 (by decide) ?_
    exact hk17 _ _ _ _ _ _ _ _ _ _ _ _ hf hR (lv_sub hl [2, 3, 4, 1, 5, 6, 0] rfl) (by omega) (by omega)
  · have hf := qif_t hf c__50
    refine lv_aload hx hb dL_shocks_317 (lv_at hl 7 rfl) ?_
    refine lv_iconst (v := 4) hx hb dL_shocks_319 (by decide) ?_
    refine l_ild hC hR (lgr_mr hj7) (j := 4) (by decide) (by decide) dL_shocks_320 ?_
    refine lv_iconst (v := 1) hx hb dL_shocks_321 (by decide) ?_
    refine lv_icmp_ne (tgt := 329) hx hb dL_shocks_322 (by decide) (fun c__54 => ?_) (fun c__54 => ?_)
    · have hf := qif_f hf c__54
      refine lv_iconst (v := 0) hx hb dL_shocks_329 (by decide) ?_
      obtain ⟨g_55, hf⟩ := qgd hf
      refine l_zst hC hR 0 rfl (j := (M_47 j7 1).toNatClampNeg) g_55 rfl (by decide) dL_shocks_330 (fun H locs hR => ?_)
      obtain ⟨f_56, ef_56⟩ : ∃ y : Nat → Int32, y = upd f1 (M_47 j7 1).toNatClampNeg 0 := ⟨_, rfl⟩
      have hf := qnm_t hf ef_56
      have hR : lR D (lX [] [] (lgr G gq gr n M0)) (lX [] [(q1, .inl (G 1, 5, .inl f_56))] (lgr G gq gr n M_47)) s H locs := by rw [ef_56]; exact hR
      obtain ⟨x_57, ex_57⟩ : ∃ y : Int32, y = x6 + 1 := ⟨_, rfl⟩
      have hf := qnm_t hf ex_57
      refine lv_iinc (v := x_57) (lv' := [(6, .int x_57), (3, .int x_48), (0, .ref gq), (1, .int x1), (2, .ref q1), (4, .ref gq), (5, .int x5), (7, .ref (gr j7))]) hx hb dL_shocks_331 hl (k := 6) rfl (by rw [ex_57]; rfl) (by decide) rfl (fun ls hl => ?_)
      refine lv_goto (tgt := 17) hx hb dL_shocks_334 (by decide) ?_
      exact hk17 _ _ _ _ _ _ _ _ _ _ _ _ hf hR (lv_sub hl [2, 3, 4, 1, 5, 6, 0] rfl) (by omega) (by omega)
    · have hf := qif_t hf c__54
      refine lv_iconst (v := 1) hx hb dL_shocks_325 (by decide) ?_
      refine lv_goto (tgt := 330) hx hb dL_shocks_326 (by decide) ?_
      obtain ⟨g_58, hf⟩ := qgd hf
      refine l_zst hC hR 0 rfl (j := (M_47 j7 1).toNatClampNeg) g_58 rfl (by decide) dL_shocks_330 (fun H locs hR => ?_)
      obtain ⟨f_59, ef_59⟩ : ∃ y : Nat → Int32, y = upd f1 (M_47 j7 1).toNatClampNeg 1 := ⟨_, rfl⟩
      have hf := qnm_t hf ef_59
      have hR : lR D (lX [] [] (lgr G gq gr n M0)) (lX [] [(q1, .inl (G 1, 5, .inl f_59))] (lgr G gq gr n M_47)) s H locs := by rw [ef_59]; exact hR
      obtain ⟨x_60, ex_60⟩ : ∃ y : Int32, y = x6 + 1 := ⟨_, rfl⟩
      have hf := qnm_t hf ex_60
      refine lv_iinc (v := x_60) (lv' := [(6, .int x_60), (3, .int x_48), (0, .ref gq), (1, .int x1), (2, .ref q1), (4, .ref gq), (5, .int x5), (7, .ref (gr j7))]) hx hb dL_shocks_331 hl (k := 6) rfl (by rw [ex_60]; rfl) (by decide) rfl (fun ls hl => ?_)
      refine lv_goto (tgt := 17) hx hb dL_shocks_334 (by decide) ?_
      exact hk17 _ _ _ _ _ _ _ _ _ _ _ _ hf hR (lv_sub hl [2, 3, 4, 1, 5, 6, 0] rfl) (by omega) (by omega)
def fL_shocks_L277 (n : Nat) (a2 : Int32) (k17 : ((Nat → Nat → Int32) → (Nat → Int32) → Int32 → Int32 → Int32 → Int32 → Option ((Nat → Int32) × (Nat → Nat → Int32)))) (M : Nat → Nat → Int32) (f1 : Nat → Int32) (x1 : Int32) (x3 : Int32) (x5 : Int32) (x6 : Int32) (j7 : Nat) (s0 : Int32) (s1 : Int32) (js2 : Nat) : Option ((Nat → Int32) × (Nat → Nat → Int32)) :=
  if qin s1 7 = true then
  qnm (quw M js2 (s1).toNatClampNeg s0) fun (M_44 : Nat → Nat → Int32) =>
  if M_44 j7 3 ≤ 20 then
    fL_shocks_L295 n a2 k17 M_44 f1 x1 x3 x5 x6 j7 0 4 j7
  else
    fL_shocks_L295 n a2 k17 M_44 f1 x1 x3 x5 x6 j7 1 4 j7
  else none
set_option maxHeartbeats 4000000 in
set_option maxRecDepth 100000 in
theorem mL_shocks_L277 {p : Program} {l : Launch} {e : Env} {s : State} {m : MethodId} {args : Array Value} {below : List Frame} {meth : Method} {c : Code} {D : va_G} {G : Nat → ClassId} {ad : Nat → Nat} {gq : Nat} {gr : Nat → Nat} {n : Nat} {a2 : Int32} {M0 : Nat → Nat → Int32} {fF : Nat → Int32} {MF : Nat → Nat → Int32} {k17 : ((Nat → Nat → Int32) → (Nat → Int32) → Int32 → Int32 → Int32 → Int32 → Option ((Nat → Int32) × (Nat → Nat → Int32)))} {B S : Nat} (hBM : B ≤ 28) (hSM : S ≤ 147) (hst : l.stackTraces = false) (hC : lCx p c cL_shocks 10 s m args meth RL D G ad (lX [] [] (lgr G gq gr n M0))) (hr : meth.sig.returnType = some (.array .int)) (hk17 : ∀ (M : Nat → Nat → Int32) (f1 : Nat → Int32) (x1 : Int32) (x3 : Int32) (x5 : Int32) (x6 : Int32) (q1 : Nat) (cc cs : Nat) (H : Heap) (locs : List Loc) (ls : Array Slot), k17 M f1 x1 x3 x5 x6 = some (fF, MF) → lR D (lX [] [] (lgr G gq gr n M0)) (lX [] [(q1, .inl (G 1, 5, .inl f1))] (lgr G gq gr n M)) s H locs → lv_has ls 10 [(0, .ref gq), (1, .int x1), (2, .ref q1), (3, .int x3), (4, .ref gq), (5, .int x5), (6, .int x6)] → cc ≤ B → cs ≤ S → W p l e (qrm 3 28 147) s m args below meth c H locs cc cs (MQ below (lQr (T := Unit) D ad (lX [] [] (lgr G gq gr n M0)) (fun (_ : Unit) (a : Nat) => lX [] [(a, .inl (G 0, 2, .inl fF))] (lgr G gq gr n MF)) (fun _ _ => True) (fun _ _ _ _ _ => True) s) args s 28 147 (va_A (lX [] [] (lgr G gq gr n M0)) s.heap.size)) (F0 m 17 ls [])) : ∀ (M : Nat → Nat → Int32) (f1 : Nat → Int32) (x1 : Int32) (x3 : Int32) (x5 : Int32) (x6 : Int32) (j7 : Nat) (s0 : Int32) (s1 : Int32) (js2 : Nat) (q1 : Nat) (hj7 : j7 < n) (hjs2 : js2 < n) (cc cs : Nat) (H : Heap) (locs : List Loc) (ls : Array Slot), fL_shocks_L277 n a2 k17 M f1 x1 x3 x5 x6 j7 s0 s1 js2 = some (fF, MF) → lR D (lX [] [] (lgr G gq gr n M0)) (lX [] [(q1, .inl (G 1, 5, .inl f1))] (lgr G gq gr n M)) s H locs → lv_has ls 10 [(0, .ref gq), (1, .int x1), (2, .ref q1), (3, .int x3), (4, .ref gq), (5, .int x5), (6, .int x6), (7, .ref (gr j7))] → cc ≤ B → cs ≤ S → cc ≤ 28 → cs ≤ 147 → W p l e (qrm 3 28 147) s m args below meth c H locs cc cs (MQ below (lQr (T := Unit) D ad (lX [] [] (lgr G gq gr n M0)) (fun (_ : Unit) (a : Nat) => lX [] [(a, .inl (G 0, 2, .inl fF))] (lgr G gq gr n MF)) (fun _ _ => True) (fun _ _ _ _ _ => True) s) args s 28 147 (va_A (lX [] [] (lgr G gq gr n M0)) s.heap.size)) (F0 m 277 ls [.int s0, .int s1, .ref (gr js2)]) := by
  have hx := hC.1
  have hb := hC.2.1
  have hJ := hC.2.2.2.2.2.2.2.1
  intro M f1 x1 x3 x5 x6 j7 s0 s1 js2 q1 hj7 hjs2 cc cs H locs ls hf hR hl hcB hsB hcM hsM
  unfold fL_shocks_L277 at hf
  obtain ⟨g_43, hf⟩ := qgd hf
  refine l_rst hC hR hjs2 (j := (s1).toNatClampNeg) g_43 rfl dL_shocks_277 (fun H locs hR => ?_)
  obtain ⟨M_44, eM_44⟩ : ∃ y : Nat → Nat → Int32, y = quw M js2 (s1).toNatClampNeg s0 := ⟨_, rfl⟩
  have hf := qnm_t hf eM_44
  rw [← eM_44] at hR
  refine lv_aload hx hb dL_shocks_278 (lv_at hl 7 rfl) ?_
  refine lv_iconst (v := 4) hx hb dL_shocks_280 (by decide) ?_
  refine lv_aload hx hb dL_shocks_281 (lv_at hl 7 rfl) ?_
  refine lv_iconst (v := 3) hx hb dL_shocks_283 (by decide) ?_
  refine l_ild hC hR (lgr_mr hj7) (j := 3) (by decide) (by decide) dL_shocks_284 ?_
  refine lv_bipush (v := 20) hx hb dL_shocks_285 (by decide) ?_
  refine lv_icmp_le (tgt := 294) hx hb dL_shocks_287 (by decide) (fun c__45 => ?_) (fun c__45 => ?_)
  · have hf := qif_t hf c__45
    refine lv_iconst (v := 0) hx hb dL_shocks_294 (by decide) ?_
    exact mL_shocks_L295 (B := B) (S := S) hBM hSM hst hC hr hk17 _ _ _ _ _ _ _ _ _ _ _ hj7 hj7 _ _ _ _ _ hf hR (lv_sub hl [0, 1, 2, 3, 4, 5, 6, 7] rfl) (by omega) (by omega) (by omega) (by omega)
  · have hf := qif_f hf c__45
    refine lv_iconst (v := 1) hx hb dL_shocks_290 (by decide) ?_
    refine lv_goto (tgt := 295) hx hb dL_shocks_291 (by decide) ?_
    exact mL_shocks_L295 (B := B) (S := S) hBM hSM hst hC hr hk17 _ _ _ _ _ _ _ _ _ _ _ hj7 hj7 _ _ _ _ _ hf hR (lv_sub hl [0, 1, 2, 3, 4, 5, 6, 7] rfl) (by omega) (by omega) (by omega) (by omega)
def fL_shocks_L252 (n : Nat) (a2 : Int32) (k17 : ((Nat → Nat → Int32) → (Nat → Int32) → Int32 → Int32 → Int32 → Int32 → Option ((Nat → Int32) × (Nat → Nat → Int32)))) (M : Nat → Nat → Int32) (f1 : Nat → Int32) (x1 : Int32) (x3 : Int32) (x5 : Int32) (x6 : Int32) (j7 : Nat) (s0 : Int32) (s1 : Int32) (js2 : Nat) : Option ((Nat → Int32) × (Nat → Nat → Int32)) :=
  if qin s1 7 = true then
  qnm (quw M js2 (s1).toNatClampNeg s0) fun (M_41 : Nat → Nat → Int32) =>
  if M_41 j7 5 = x1 then
    fL_shocks_L277 n a2 k17 M_41 f1 x1 x3 x5 x6 j7 ((M_41 j7 3) / 2) 3 j7
  else
    fL_shocks_L277 n a2 k17 M_41 f1 x1 x3 x5 x6 j7 (M_41 j7 3) 3 j7
  else none
set_option maxHeartbeats 4000000 in
set_option maxRecDepth 100000 in
theorem mL_shocks_L252 {p : Program} {l : Launch} {e : Env} {s : State} {m : MethodId} {args : Array Value} {below : List Frame} {meth : Method} {c : Code} {D : va_G} {G : Nat → ClassId} {ad : Nat → Nat} {gq : Nat} {gr : Nat → Nat} {n : Nat} {a2 : Int32} {M0 : Nat → Nat → Int32} {fF : Nat → Int32} {MF : Nat → Nat → Int32} {k17 : ((Nat → Nat → Int32) → (Nat → Int32) → Int32 → Int32 → Int32 → Int32 → Option ((Nat → Int32) × (Nat → Nat → Int32)))} {B S : Nat} (hBM : B ≤ 28) (hSM : S ≤ 147) (hst : l.stackTraces = false) (hC : lCx p c cL_shocks 10 s m args meth RL D G ad (lX [] [] (lgr G gq gr n M0))) (hr : meth.sig.returnType = some (.array .int)) (hk17 : ∀ (M : Nat → Nat → Int32) (f1 : Nat → Int32) (x1 : Int32) (x3 : Int32) (x5 : Int32) (x6 : Int32) (q1 : Nat) (cc cs : Nat) (H : Heap) (locs : List Loc) (ls : Array Slot), k17 M f1 x1 x3 x5 x6 = some (fF, MF) → lR D (lX [] [] (lgr G gq gr n M0)) (lX [] [(q1, .inl (G 1, 5, .inl f1))] (lgr G gq gr n M)) s H locs → lv_has ls 10 [(0, .ref gq), (1, .int x1), (2, .ref q1), (3, .int x3), (4, .ref gq), (5, .int x5), (6, .int x6)] → cc ≤ B → cs ≤ S → W p l e (qrm 3 28 147) s m args below meth c H locs cc cs (MQ below (lQr (T := Unit) D ad (lX [] [] (lgr G gq gr n M0)) (fun (_ : Unit) (a : Nat) => lX [] [(a, .inl (G 0, 2, .inl fF))] (lgr G gq gr n MF)) (fun _ _ => True) (fun _ _ _ _ _ => True) s) args s 28 147 (va_A (lX [] [] (lgr G gq gr n M0)) s.heap.size)) (F0 m 17 ls [])) : ∀ (M : Nat → Nat → Int32) (f1 : Nat → Int32) (x1 : Int32) (x3 : Int32) (x5 : Int32) (x6 : Int32) (j7 : Nat) (s0 : Int32) (s1 : Int32) (js2 : Nat) (q1 : Nat) (hj7 : j7 < n) (hjs2 : js2 < n) (cc cs : Nat) (H : Heap) (locs : List Loc) (ls : Array Slot), fL_shocks_L252 n a2 k17 M f1 x1 x3 x5 x6 j7 s0 s1 js2 = some (fF, MF) → lR D (lX [] [] (lgr G gq gr n M0)) (lX [] [(q1, .inl (G 1, 5, .inl f1))] (lgr G gq gr n M)) s H locs → lv_has ls 10 [(0, .ref gq), (1, .int x1), (2, .ref q1), (3, .int x3), (4, .ref gq), (5, .int x5), (6, .int x6), (7, .ref (gr j7))] → cc ≤ B → cs ≤ S → cc ≤ 28 → cs ≤ 147 → W p l e (qrm 3 28 147) s m args below meth c H locs cc cs (MQ below (lQr (T := Unit) D ad (lX [] [] (lgr G gq gr n M0)) (fun (_ : Unit) (a : Nat) => lX [] [(a, .inl (G 0, 2, .inl fF))] (lgr G gq gr n MF)) (fun _ _ => True) (fun _ _ _ _ _ => True) s) args s 28 147 (va_A (lX [] [] (lgr G gq gr n M0)) s.heap.size)) (F0 m 252 ls [.int s0, .int s1, .ref (gr js2)]) := by
  have hx := hC.1
  have hb := hC.2.1
  have hJ := hC.2.2.2.2.2.2.2.1
  intro M f1 x1 x3 x5 x6 j7 s0 s1 js2 q1 hj7 hjs2 cc cs H locs ls hf hR hl hcB hsB hcM hsM
  unfold fL_shocks_L252 at hf
  obtain ⟨g_40, hf⟩ := qgd hf
  refine l_rst hC hR hjs2 (j := (s1).toNatClampNeg) g_40 rfl dL_shocks_252 (fun H locs hR => ?_)
  obtain ⟨M_41, eM_41⟩ : ∃ y : Nat → Nat → Int32, y = quw M js2 (s1).toNatClampNeg s0 := ⟨_, rfl⟩
  have hf := qnm_t hf eM_41
  rw [← eM_41] at hR
  refine lv_aload hx hb dL_shocks_253 (lv_at hl 7 rfl) ?_
  refine lv_iconst (v := 3) hx hb dL_shocks_255 (by decide) ?_
  refine lv_aload hx hb dL_shocks_256 (lv_at hl 7 rfl) ?_
  refine lv_iconst (v := 5) hx hb dL_shocks_258 (by decide) ?_
  refine l_ild hC hR (lgr_mr hj7) (j := 5) (by decide) (by decide) dL_shocks_259 ?_
  refine lv_iload_n hx hb dL_shocks_260 rfl (lv_at hl 1 rfl) ?_
  refine lv_icmp_ne (tgt := 273) hx hb dL_shocks_261 (by decide) (fun c__42 => ?_) (fun c__42 => ?_)
  · have hf := qif_f hf c__42
    refine lv_aload hx hb dL_shocks_273 (lv_at hl 7 rfl) ?_
    refine lv_iconst (v := 3) hx hb dL_shocks_275 (by decide) ?_
    refine l_ild hC hR (lgr_mr hj7) (j := 3) (by decide) (by decide) dL_shocks_276 ?_
    exact mL_shocks_L277 (B := B) (S := S) hBM hSM hst hC hr hk17 _ _ _ _ _ _ _ _ _ _ _ hj7 hj7 _ _ _ _ _ hf hR (lv_sub hl [0, 1, 2, 3, 4, 5, 6, 7] rfl) (by omega) (by omega) (by omega) (by omega)
  · have hf := qif_t hf c__42
    refine lv_aload hx hb dL_shocks_264 (lv_at hl 7 rfl) ?_
    refine lv_iconst (v := 3) hx hb dL_shocks_266 (by decide) ?_
    refine l_ild hC hR (lgr_mr hj7) (j := 3) (by decide) (by decide) dL_shocks_267 ?_
    refine lv_iconst (v := 2) hx hb dL_shocks_268 (by decide) ?_
    refine lv_idiv hx hb dL_shocks_269 (by decide) ?_
    refine lv_goto (tgt := 277) hx hb dL_shocks_270 (by decide) ?_
    exact mL_shocks_L277 (B := B) (S := S) hBM hSM hst hC hr hk17 _ _ _ _ _ _ _ _ _ _ _ hj7 hj7 _ _ _ _ _ hf hR (lv_sub hl [0, 1, 2, 3, 4, 5, 6, 7] rfl) (by omega) (by omega) (by omega) (by omega)
def fL_shocks_L201 (n : Nat) (a2 : Int32) (k17 : ((Nat → Nat → Int32) → (Nat → Int32) → Int32 → Int32 → Int32 → Int32 → Option ((Nat → Int32) × (Nat → Nat → Int32)))) (M : Nat → Nat → Int32) (f1 : Nat → Int32) (x1 : Int32) (x3 : Int32) (x5 : Int32) (x6 : Int32) (j7 : Nat) (x8 : Int32) : Option ((Nat → Int32) × (Nat → Nat → Int32)) :=
  if M j7 0 = 2 then
    if M j7 4 = 0 then
      if x8 = 0 then
        qnm (if (0 : Int32) < (M j7 3) - 1 then (M j7 3) - 1 else 0) fun (x_61 : Int32) =>
        fL_shocks_L252 n a2 k17 M f1 x1 x3 x5 x6 j7 x_61 3 j7
      else
        if x8 = 0 then none else
        fL_shocks_L252 n a2 k17 M f1 x1 x3 x5 x6 j7 (((M j7 3) + x8) + ((M j7 2) - (M j7 2) / x8 * x8)) 3 j7
    else
      qnm (x6 + 1) fun (x_37 : Int32) =>
      k17 M f1 x1 x3 x5 x_37
  else
    qnm (x6 + 1) fun (x_35 : Int32) =>
    k17 M f1 x1 x3 x5 x_35
set_option maxHeartbeats 4000000 in
set_option maxRecDepth 100000 in
theorem mL_shocks_L201 {p : Program} {l : Launch} {e : Env} {s : State} {m : MethodId} {args : Array Value} {below : List Frame} {meth : Method} {c : Code} {D : va_G} {G : Nat → ClassId} {ad : Nat → Nat} {gq : Nat} {gr : Nat → Nat} {n : Nat} {a2 : Int32} {M0 : Nat → Nat → Int32} {fF : Nat → Int32} {MF : Nat → Nat → Int32} {k17 : ((Nat → Nat → Int32) → (Nat → Int32) → Int32 → Int32 → Int32 → Int32 → Option ((Nat → Int32) × (Nat → Nat → Int32)))} {B S : Nat} (hBM : B ≤ 28) (hSM : S ≤ 147) (hst : l.stackTraces = false) (hC : lCx p c cL_shocks 10 s m args meth RL D G ad (lX [] [] (lgr G gq gr n M0))) (hr : meth.sig.returnType = some (.array .int)) (hk17 : ∀ (M : Nat → Nat → Int32) (f1 : Nat → Int32) (x1 : Int32) (x3 : Int32) (x5 : Int32) (x6 : Int32) (q1 : Nat) (cc cs : Nat) (H : Heap) (locs : List Loc) (ls : Array Slot), k17 M f1 x1 x3 x5 x6 = some (fF, MF) → lR D (lX [] [] (lgr G gq gr n M0)) (lX [] [(q1, .inl (G 1, 5, .inl f1))] (lgr G gq gr n M)) s H locs → lv_has ls 10 [(0, .ref gq), (1, .int x1), (2, .ref q1), (3, .int x3), (4, .ref gq), (5, .int x5), (6, .int x6)] → cc ≤ B → cs ≤ S → W p l e (qrm 3 28 147) s m args below meth c H locs cc cs (MQ below (lQr (T := Unit) D ad (lX [] [] (lgr G gq gr n M0)) (fun (_ : Unit) (a : Nat) => lX [] [(a, .inl (G 0, 2, .inl fF))] (lgr G gq gr n MF)) (fun _ _ => True) (fun _ _ _ _ _ => True) s) args s 28 147 (va_A (lX [] [] (lgr G gq gr n M0)) s.heap.size)) (F0 m 17 ls [])) : ∀ (M : Nat → Nat → Int32) (f1 : Nat → Int32) (x1 : Int32) (x3 : Int32) (x5 : Int32) (x6 : Int32) (j7 : Nat) (x8 : Int32) (q1 : Nat) (hj7 : j7 < n) (cc cs : Nat) (H : Heap) (locs : List Loc) (ls : Array Slot), fL_shocks_L201 n a2 k17 M f1 x1 x3 x5 x6 j7 x8 = some (fF, MF) → lR D (lX [] [] (lgr G gq gr n M0)) (lX [] [(q1, .inl (G 1, 5, .inl f1))] (lgr G gq gr n M)) s H locs → lv_has ls 10 [(0, .ref gq), (1, .int x1), (2, .ref q1), (3, .int x3), (4, .ref gq), (5, .int x5), (6, .int x6), (7, .ref (gr j7)), (8, .int x8)] → cc ≤ B → cs ≤ S → cc ≤ 28 → cs ≤ 147 → W p l e (qrm 3 28 147) s m args below meth c H locs cc cs (MQ below (lQr (T := Unit) D ad (lX [] [] (lgr G gq gr n M0)) (fun (_ : Unit) (a : Nat) => lX [] [(a, .inl (G 0, 2, .inl fF))] (lgr G gq gr n MF)) (fun _ _ => True) (fun _ _ _ _ _ => True) s) args s 28 147 (va_A (lX [] [] (lgr G gq gr n M0)) s.heap.size)) (F0 m 201 ls []) := by
  have hx := hC.1
  have hb := hC.2.1
  have hJ := hC.2.2.2.2.2.2.2.1
  intro M f1 x1 x3 x5 x6 j7 x8 q1 hj7 cc cs H locs ls hf hR hl hcB hsB hcM hsM
  unfold fL_shocks_L201 at hf
  refine lv_aload hx hb dL_shocks_201 (lv_at hl 7 rfl) ?_
  refine lv_iconst (v := 0) hx hb dL_shocks_203 (by decide) ?_
  refine l_ild hC hR (lgr_mr hj7) (j := 0) (by decide) (by decide) dL_shocks_204 ?_
  refine lv_iconst (v := 2) hx hb dL_shocks_205 (by decide) ?_
  refine lv_icmp_ne (tgt := 331) hx hb dL_shocks_206 (by decide) (fun c__34 => ?_) (fun c__34 => ?_)
  · have hf := qif_f hf c__34
    obtain ⟨x_35, ex_35⟩ : ∃ y : Int32, y = x6 + 1 := ⟨_, rfl⟩
    have hf := qnm_t hf ex_35
    refine lv_iinc (v := x_35) (lv' := [(6, .int x_35), (0, .ref gq), (1, .int x1), (2, .ref q1), (3, .int x3), (4, .ref gq), (5, .int x5), (7, .ref (gr j7)), (8, .int x8)]) hx hb dL_shocks_331 hl (k := 6) rfl (by rw [ex_35]; rfl) (by decide) rfl (fun ls hl => ?_)
    refine lv_goto (tgt := 17) hx hb dL_shocks_334 (by decide) ?_
    exact hk17 _ _ _ _ _ _ _ _ _ _ _ _ hf hR (lv_sub hl [1, 2, 3, 4, 5, 6, 0] rfl) (by omega) (by omega)
  · have hf := qif_t hf c__34
    refine lv_aload hx hb dL_shocks_209 (lv_at hl 7 rfl) ?_
    refine lv_iconst (v := 4) hx hb dL_shocks_211 (by decide) ?_
    refine l_ild hC hR (lgr_mr hj7) (j := 4) (by decide) (by decide) dL_shocks_212 ?_
    refine lv_if_ne (tgt := 331) hx hb dL_shocks_213 (by decide) (fun c__36 => ?_) (fun c__36 => ?_)
    · have hf := qif_f hf c__36
      obtain ⟨x_37, ex_37⟩ : ∃ y : Int32, y = x6 + 1 := ⟨_, rfl⟩
      have hf := qnm_t hf ex_37
      refine lv_iinc (v := x_37) (lv' := [(6, .int x_37), (0, .ref gq), (1, .int x1), (2, .ref q1), (3, .int x3), (4, .ref gq), (5, .int x5), (7, .ref (gr j7)), (8, .int x8)]) hx hb dL_shocks_331 hl (k := 6) rfl (by rw [ex_37]; rfl) (by decide) rfl (fun ls hl => ?_)
      refine lv_goto (tgt := 17) hx hb dL_shocks_334 (by decide) ?_
      exact hk17 _ _ _ _ _ _ _ _ _ _ _ _ hf hR (lv_sub hl [1, 2, 3, 4, 5, 6, 0] rfl) (by omega) (by omega)
    · have hf := qif_t hf c__36
      refine lv_aload hx hb dL_shocks_216 (lv_at hl 7 rfl) ?_
      refine lv_iconst (v := 3) hx hb dL_shocks_218 (by decide) ?_
      refine lv_iload hx hb dL_shocks_219 (lv_at hl 8 rfl) ?_
      refine lv_if_ne (tgt := 237) hx hb dL_shocks_221 (by decide) (fun c__38 => ?_) (fun c__38 => ?_)
      · have hf := qif_f hf c__38
        refine lv_aload hx hb dL_shocks_237 (lv_at hl 7 rfl) ?_
        refine lv_iconst (v := 3) hx hb dL_shocks_239 (by decide) ?_
        refine l_ild hC hR (lgr_mr hj7) (j := 3) (by decide) (by decide) dL_shocks_240 ?_
        refine lv_iload hx hb dL_shocks_241 (lv_at hl 8 rfl) ?_
        refine lv_iadd hx hb dL_shocks_243 ?_
        refine lv_aload hx hb dL_shocks_244 (lv_at hl 7 rfl) ?_
        refine lv_iconst (v := 2) hx hb dL_shocks_246 (by decide) ?_
        refine l_ild hC hR (lgr_mr hj7) (j := 2) (by decide) (by decide) dL_shocks_247 ?_
        refine lv_iload hx hb dL_shocks_248 (lv_at hl 8 rfl) ?_
        obtain ⟨g_39, hf⟩ := qgdn hf
        refine lv_irem hx hb dL_shocks_250 g_39 ?_
        refine lv_iadd hx hb dL_shocks_251 ?_
        exact mL_shocks_L252 (B := B) (S := S) hBM hSM hst hC hr hk17 _ _ _ _ _ _ _ _ _ _ _ hj7 hj7 _ _ _ _ _ hf hR (lv_sub hl [0, 1, 2, 3, 4, 5, 6, 7] rfl) (by omega) (by omega) (by omega) (by omega)
      · have hf := qif_t hf c__38
        refine lv_iconst (v := 0) hx hb dL_shocks_224 (by decide) ?_
        refine lv_aload hx hb dL_shocks_225 (lv_at hl 7 rfl) ?_
        refine lv_iconst (v := 3) hx hb dL_shocks_227 (by decide) ?_
        refine l_ild hC hR (lgr_mr hj7) (j := 3) (by decide) (by decide) dL_shocks_228 ?_
        refine lv_iconst (v := 1) hx hb dL_shocks_229 (by decide) ?_
        refine lv_isub hx hb dL_shocks_230 ?_
        refine va_mmax hx hb (hC.2.2.1.trans hl.1.symm) hC.2.2.2.1 (hC.2.2.2.2.1 _ qkl_662) (hC.2.2.2.2.1 _ qk_663) (hC.2.2.2.2.1 _ qk_25) (hC.2.2.2.2.1 _ qk_664) (Nat.le_of_ble_eq_true rfl) (Nat.le_of_ble_eq_true rfl) (by show _ ≤ 28; omega) (by show _ ≤ 147; omega) dL_shocks_231 ?_
        refine lv_topi (fun x_61 ex_61 => ?_)
        have hf := qnm_t hf ex_61
        refine lv_goto (tgt := 252) hx hb dL_shocks_234 (by decide) ?_
        exact mL_shocks_L252 (B := B) (S := S) hBM hSM hst hC hr hk17 _ _ _ _ _ _ _ _ _ _ _ hj7 hj7 _ _ _ _ _ hf hR (lv_sub hl [0, 1, 2, 3, 4, 5, 6, 7] rfl) (by omega) (by omega) (by omega) (by omega)
def fL_shocks_L165 (n : Nat) (a2 : Int32) (k17 : ((Nat → Nat → Int32) → (Nat → Int32) → Int32 → Int32 → Int32 → Int32 → Option ((Nat → Int32) × (Nat → Nat → Int32)))) (M : Nat → Nat → Int32) (f1 : Nat → Int32) (x1 : Int32) (x3 : Int32) (x5 : Int32) (x6 : Int32) (j7 : Nat) (x8 : Int32) (s0 : Int32) (s1 : Int32) (js2 : Nat) : Option ((Nat → Int32) × (Nat → Nat → Int32)) :=
  if qin s1 7 = true then
  qnm (quw M js2 (s1).toNatClampNeg s0) fun (M_75 : Nat → Nat → Int32) =>
  qnm (x3 + (M_75 j7 4)) fun (x_76 : Int32) =>
  if qin (M_75 j7 1) 5 = true then
  if f1 (M_75 j7 1).toNatClampNeg = 0 then
    if M_75 j7 4 = 1 then
      if qin (M_75 j7 1) 5 = true then
      qnm (upd f1 (M_75 j7 1).toNatClampNeg 1) fun (f_85 : Nat → Int32) =>
      fL_shocks_L201 n a2 k17 M_75 f_85 x1 x_76 x5 x6 j7 x8
      else none
    else
      if qin (M_75 j7 1) 5 = true then
      qnm (upd f1 (M_75 j7 1).toNatClampNeg 0) fun (f_83 : Nat → Int32) =>
      fL_shocks_L201 n a2 k17 M_75 f_83 x1 x_76 x5 x6 j7 x8
      else none
  else
    if qin (M_75 j7 1) 5 = true then
    qnm (upd f1 (M_75 j7 1).toNatClampNeg 1) fun (f_80 : Nat → Int32) =>
    fL_shocks_L201 n a2 k17 M_75 f_80 x1 x_76 x5 x6 j7 x8
    else none
  else none
  else none
set_option maxHeartbeats 4000000 in
set_option maxRecDepth 100000 in
theorem mL_shocks_L165 {p : Program} {l : Launch} {e : Env} {s : State} {m : MethodId} {args : Array Value} {below : List Frame} {meth : Method} {c : Code} {D : va_G} {G : Nat → ClassId} {ad : Nat → Nat} {gq : Nat} {gr : Nat → Nat} {n : Nat} {a2 : Int32} {M0 : Nat → Nat → Int32} {fF : Nat → Int32} {MF : Nat → Nat → Int32} {k17 : ((Nat → Nat → Int32) → (Nat → Int32) → Int32 → Int32 → Int32 → Int32 → Option ((Nat → Int32) × (Nat → Nat → Int32)))} {B S : Nat} (hBM : B ≤ 28) (hSM : S ≤ 147) (hst : l.stackTraces = false) (hC : lCx p c cL_shocks 10 s m args meth RL D G ad (lX [] [] (lgr G gq gr n M0))) (hr : meth.sig.returnType = some (.array .int)) (hk17 : ∀ (M : Nat → Nat → Int32) (f1 : Nat → Int32) (x1 : Int32) (x3 : Int32) (x5 : Int32) (x6 : Int32) (q1 : Nat) (cc cs : Nat) (H : Heap) (locs : List Loc) (ls : Array Slot), k17 M f1 x1 x3 x5 x6 = some (fF, MF) → lR D (lX [] [] (lgr G gq gr n M0)) (lX [] [(q1, .inl (G 1, 5, .inl f1))] (lgr G gq gr n M)) s H locs → lv_has ls 10 [(0, .ref gq), (1, .int x1), (2, .ref q1), (3, .int x3), (4, .ref gq), (5, .int x5), (6, .int x6)] → cc ≤ B → cs ≤ S → W p l e (qrm 3 28 147) s m args below meth c H locs cc cs (MQ below (lQr (T := Unit) D ad (lX [] [] (lgr G gq gr n M0)) (fun (_ : Unit) (a : Nat) => lX [] [(a, .inl (G 0, 2, .inl fF))] (lgr G gq gr n MF)) (fun _ _ => True) (fun _ _ _ _ _ => True) s) args s 28 147 (va_A (lX [] [] (lgr G gq gr n M0)) s.heap.size)) (F0 m 17 ls [])) : ∀ (M : Nat → Nat → Int32) (f1 : Nat → Int32) (x1 : Int32) (x3 : Int32) (x5 : Int32) (x6 : Int32) (j7 : Nat) (x8 : Int32) (s0 : Int32) (s1 : Int32) (js2 : Nat) (q1 : Nat) (hj7 : j7 < n) (hjs2 : js2 < n) (cc cs : Nat) (H : Heap) (locs : List Loc) (ls : Array Slot), fL_shocks_L165 n a2 k17 M f1 x1 x3 x5 x6 j7 x8 s0 s1 js2 = some (fF, MF) → lR D (lX [] [] (lgr G gq gr n M0)) (lX [] [(q1, .inl (G 1, 5, .inl f1))] (lgr G gq gr n M)) s H locs → lv_has ls 10 [(0, .ref gq), (1, .int x1), (2, .ref q1), (3, .int x3), (4, .ref gq), (5, .int x5), (6, .int x6), (7, .ref (gr j7)), (8, .int x8)] → cc ≤ B → cs ≤ S → cc ≤ 28 → cs ≤ 147 → W p l e (qrm 3 28 147) s m args below meth c H locs cc cs (MQ below (lQr (T := Unit) D ad (lX [] [] (lgr G gq gr n M0)) (fun (_ : Unit) (a : Nat) => lX [] [(a, .inl (G 0, 2, .inl fF))] (lgr G gq gr n MF)) (fun _ _ => True) (fun _ _ _ _ _ => True) s) args s 28 147 (va_A (lX [] [] (lgr G gq gr n M0)) s.heap.size)) (F0 m 165 ls [.int s0, .int s1, .ref (gr js2)]) := by
  have hx := hC.1
  have hb := hC.2.1
  have hJ := hC.2.2.2.2.2.2.2.1
  intro M f1 x1 x3 x5 x6 j7 x8 s0 s1 js2 q1 hj7 hjs2 cc cs H locs ls hf hR hl hcB hsB hcM hsM
  unfold fL_shocks_L165 at hf
  obtain ⟨g_74, hf⟩ := qgd hf
  refine l_rst hC hR hjs2 (j := (s1).toNatClampNeg) g_74 rfl dL_shocks_165 (fun H locs hR => ?_)
  obtain ⟨M_75, eM_75⟩ : ∃ y : Nat → Nat → Int32, y = quw M js2 (s1).toNatClampNeg s0 := ⟨_, rfl⟩
  have hf := qnm_t hf eM_75
  rw [← eM_75] at hR
  refine lv_iload_n hx hb dL_shocks_166 rfl (lv_at hl 3 rfl) ?_
  refine lv_aload hx hb dL_shocks_167 (lv_at hl 7 rfl) ?_
  refine lv_iconst (v := 4) hx hb dL_shocks_169 (by decide) ?_
  refine l_ild hC hR (lgr_mr hj7) (j := 4) (by decide) (by decide) dL_shocks_170 ?_
  refine lv_iadd hx hb dL_shocks_171 ?_
  refine lv_topi (fun x_76 ex_76 => ?_)
  have hf := qnm_t hf ex_76
  refine lv_istore_n (lv' := [(3, .int x_76), (0, .ref gq), (1, .int x1), (2, .ref q1), (4, .ref gq), (5, .int x5), (6, .int x6), (7, .ref (gr j7)), (8, .int x8)]) hx hb dL_shocks_172 rfl hl (by decide) rfl (fun ls hl => ?_)
  refine lv_aload_n hx hb dL_shocks_173 rfl (lv_at hl 3 rfl) ?_
  refine lv_aload hx hb dL_shocks_174 (lv_at hl 7 rfl) ?_
  refine lv_iconst (v := 1) hx hb dL_shocks_176 (by decide) ?_
  refine l_ild hC hR (lgr_mr hj7) (j := 1) (by decide) (by decide) dL_shocks_177 ?_
  refine lv_aload_n hx hb dL_shocks_178 rfl (lv_at hl 3 rfl) ?_
  refine lv_aload hx hb dL_shocks_179 (lv_at hl 7 rfl) ?_
  refine lv_iconst (v := 1) hx hb dL_shocks_181 (by decide) ?_
  refine l_ild hC hR (lgr_mr hj7) (j := 1) (by decide) (by decide) dL_shocks_182 ?_
  obtain ⟨g_77, hf⟩ := qgd hf
  refine l_zld hC hR (lX_mx 0 rfl) (j := (M_75 j7 1).toNatClampNeg) g_77 rfl dL_shocks_183 ?_
  refine lv_if_ne (tgt := 195) hx hb dL_shocks_184 (by decide) (fun c__78 => ?_) (fun c__78 => ?_)
  · have hf := qif_f hf c__78
    refine lv_iconst (v := 1) hx hb dL_shocks_195 (by decide) ?_
    refine lv_goto (tgt := 200) hx hb dL_shocks_196 (by decide) ?_
    obtain ⟨g_79, hf⟩ := qgd hf
    refine l_zst hC hR 0 rfl (j := (M_75 j7 1).toNatClampNeg) g_79 rfl (by decide) dL_shocks_200 (fun H locs hR => ?_)
    obtain ⟨f_80, ef_80⟩ : ∃ y : Nat → Int32, y = upd f1 (M_75 j7 1).toNatClampNeg 1 := ⟨_, rfl⟩
    have hf := qnm_t hf ef_80
    have hR : lR D (lX [] [] (lgr G gq gr n M0)) (lX [] [(q1, .inl (G 1, 5, .inl f_80))] (lgr G gq gr n M_75)) s H locs := by rw [ef_80]; exact hR
    exact mL_shocks_L201 (B := B) (S := S) hBM hSM hst hC hr hk17 _ _ _ _ _ _ _ _ _ hj7 _ _ _ _ _ hf hR (lv_sub hl [1, 2, 3, 0, 4, 5, 6, 7, 8] rfl) (by omega) (by omega) (by omega) (by omega)
  · have hf := qif_t hf c__78
    refine lv_aload hx hb dL_shocks_187 (lv_at hl 7 rfl) ?_
    refine lv_iconst (v := 4) hx hb dL_shocks_189 (by decide) ?_
    refine l_ild hC hR (lgr_mr hj7) (j := 4) (by decide) (by decide) dL_shocks_190 ?_
    refine lv_iconst (v := 1) hx hb dL_shocks_191 (by decide) ?_
    refine lv_icmp_ne (tgt := 199) hx hb dL_shocks_192 (by decide) (fun c__81 => ?_) (fun c__81 => ?_)
    · have hf := qif_f hf c__81
      refine lv_iconst (v := 0) hx hb dL_shocks_199 (by decide) ?_
      obtain ⟨g_82, hf⟩ := qgd hf
      refine l_zst hC hR 0 rfl (j := (M_75 j7 1).toNatClampNeg) g_82 rfl (by decide) dL_shocks_200 (fun H locs hR => ?_)
      obtain ⟨f_83, ef_83⟩ : ∃ y : Nat → Int32, y = upd f1 (M_75 j7 1).toNatClampNeg 0 := ⟨_, rfl⟩
      have hf := qnm_t hf ef_83
      have hR : lR D (lX [] [] (lgr G gq gr n M0)) (lX [] [(q1, .inl (G 1, 5, .inl f_83))] (lgr G gq gr n M_75)) s H locs := by rw [ef_83]; exact hR
      exact mL_shocks_L201 (B := B) (S := S) hBM hSM hst hC hr hk17 _ _ _ _ _ _ _ _ _ hj7 _ _ _ _ _ hf hR (lv_sub hl [1, 2, 3, 0, 4, 5, 6, 7, 8] rfl) (by omega) (by omega) (by omega) (by omega)
    · have hf := qif_t hf c__81
      refine lv_iconst (v := 1) hx hb dL_shocks_195 (by decide) ?_
      refine lv_goto (tgt := 200) hx hb dL_shocks_196 (by decide) ?_
      obtain ⟨g_84, hf⟩ := qgd hf
      refine l_zst hC hR 0 rfl (j := (M_75 j7 1).toNatClampNeg) g_84 rfl (by decide) dL_shocks_200 (fun H locs hR => ?_)
      obtain ⟨f_85, ef_85⟩ : ∃ y : Nat → Int32, y = upd f1 (M_75 j7 1).toNatClampNeg 1 := ⟨_, rfl⟩
      have hf := qnm_t hf ef_85
      have hR : lR D (lX [] [] (lgr G gq gr n M0)) (lX [] [(q1, .inl (G 1, 5, .inl f_85))] (lgr G gq gr n M_75)) s H locs := by rw [ef_85]; exact hR
      exact mL_shocks_L201 (B := B) (S := S) hBM hSM hst hC hr hk17 _ _ _ _ _ _ _ _ _ hj7 _ _ _ _ _ hf hR (lv_sub hl [1, 2, 3, 0, 4, 5, 6, 7, 8] rfl) (by omega) (by omega) (by omega) (by omega)
def fL_shocks_L148 (n : Nat) (a2 : Int32) (k17 : ((Nat → Nat → Int32) → (Nat → Int32) → Int32 → Int32 → Int32 → Int32 → Option ((Nat → Int32) × (Nat → Nat → Int32)))) (M : Nat → Nat → Int32) (f1 : Nat → Int32) (x1 : Int32) (x3 : Int32) (x5 : Int32) (x6 : Int32) (j7 : Nat) (x8 : Int32) (s0 : Int32) (s1 : Int32) (js2 : Nat) : Option ((Nat → Int32) × (Nat → Nat → Int32)) :=
  if qin s1 7 = true then
  qnm (quw M js2 (s1).toNatClampNeg s0) fun (M_72 : Nat → Nat → Int32) =>
  if M_72 j7 3 ≤ 2 then
    fL_shocks_L165 n a2 k17 M_72 f1 x1 x3 x5 x6 j7 x8 0 4 j7
  else
    fL_shocks_L165 n a2 k17 M_72 f1 x1 x3 x5 x6 j7 x8 1 4 j7
  else none
set_option maxHeartbeats 4000000 in
set_option maxRecDepth 100000 in
theorem mL_shocks_L148 {p : Program} {l : Launch} {e : Env} {s : State} {m : MethodId} {args : Array Value} {below : List Frame} {meth : Method} {c : Code} {D : va_G} {G : Nat → ClassId} {ad : Nat → Nat} {gq : Nat} {gr : Nat → Nat} {n : Nat} {a2 : Int32} {M0 : Nat → Nat → Int32} {fF : Nat → Int32} {MF : Nat → Nat → Int32} {k17 : ((Nat → Nat → Int32) → (Nat → Int32) → Int32 → Int32 → Int32 → Int32 → Option ((Nat → Int32) × (Nat → Nat → Int32)))} {B S : Nat} (hBM : B ≤ 28) (hSM : S ≤ 147) (hst : l.stackTraces = false) (hC : lCx p c cL_shocks 10 s m args meth RL D G ad (lX [] [] (lgr G gq gr n M0))) (hr : meth.sig.returnType = some (.array .int)) (hk17 : ∀ (M : Nat → Nat → Int32) (f1 : Nat → Int32) (x1 : Int32) (x3 : Int32) (x5 : Int32) (x6 : Int32) (q1 : Nat) (cc cs : Nat) (H : Heap) (locs : List Loc) (ls : Array Slot), k17 M f1 x1 x3 x5 x6 = some (fF, MF) → lR D (lX [] [] (lgr G gq gr n M0)) (lX [] [(q1, .inl (G 1, 5, .inl f1))] (lgr G gq gr n M)) s H locs → lv_has ls 10 [(0, .ref gq), (1, .int x1), (2, .ref q1), (3, .int x3), (4, .ref gq), (5, .int x5), (6, .int x6)] → cc ≤ B → cs ≤ S → W p l e (qrm 3 28 147) s m args below meth c H locs cc cs (MQ below (lQr (T := Unit) D ad (lX [] [] (lgr G gq gr n M0)) (fun (_ : Unit) (a : Nat) => lX [] [(a, .inl (G 0, 2, .inl fF))] (lgr G gq gr n MF)) (fun _ _ => True) (fun _ _ _ _ _ => True) s) args s 28 147 (va_A (lX [] [] (lgr G gq gr n M0)) s.heap.size)) (F0 m 17 ls [])) : ∀ (M : Nat → Nat → Int32) (f1 : Nat → Int32) (x1 : Int32) (x3 : Int32) (x5 : Int32) (x6 : Int32) (j7 : Nat) (x8 : Int32) (s0 : Int32) (s1 : Int32) (js2 : Nat) (q1 : Nat) (hj7 : j7 < n) (hjs2 : js2 < n) (cc cs : Nat) (H : Heap) (locs : List Loc) (ls : Array Slot), fL_shocks_L148 n a2 k17 M f1 x1 x3 x5 x6 j7 x8 s0 s1 js2 = some (fF, MF) → lR D (lX [] [] (lgr G gq gr n M0)) (lX [] [(q1, .inl (G 1, 5, .inl f1))] (lgr G gq gr n M)) s H locs → lv_has ls 10 [(0, .ref gq), (1, .int x1), (2, .ref q1), (3, .int x3), (4, .ref gq), (5, .int x5), (6, .int x6), (7, .ref (gr j7)), (8, .int x8)] → cc ≤ B → cs ≤ S → cc ≤ 28 → cs ≤ 147 → W p l e (qrm 3 28 147) s m args below meth c H locs cc cs (MQ below (lQr (T := Unit) D ad (lX [] [] (lgr G gq gr n M0)) (fun (_ : Unit) (a : Nat) => lX [] [(a, .inl (G 0, 2, .inl fF))] (lgr G gq gr n MF)) (fun _ _ => True) (fun _ _ _ _ _ => True) s) args s 28 147 (va_A (lX [] [] (lgr G gq gr n M0)) s.heap.size)) (F0 m 148 ls [.int s0, .int s1, .ref (gr js2)]) := by
  have hx := hC.1
  have hb := hC.2.1
  have hJ := hC.2.2.2.2.2.2.2.1
  intro M f1 x1 x3 x5 x6 j7 x8 s0 s1 js2 q1 hj7 hjs2 cc cs H locs ls hf hR hl hcB hsB hcM hsM
  unfold fL_shocks_L148 at hf
  obtain ⟨g_71, hf⟩ := qgd hf
  refine l_rst hC hR hjs2 (j := (s1).toNatClampNeg) g_71 rfl dL_shocks_148 (fun H locs hR => ?_)
  obtain ⟨M_72, eM_72⟩ : ∃ y : Nat → Nat → Int32, y = quw M js2 (s1).toNatClampNeg s0 := ⟨_, rfl⟩
  have hf := qnm_t hf eM_72
  rw [← eM_72] at hR
  refine lv_aload hx hb dL_shocks_149 (lv_at hl 7 rfl) ?_
  refine lv_iconst (v := 4) hx hb dL_shocks_151 (by decide) ?_
  refine lv_aload hx hb dL_shocks_152 (lv_at hl 7 rfl) ?_
  refine lv_iconst (v := 3) hx hb dL_shocks_154 (by decide) ?_
  refine l_ild hC hR (lgr_mr hj7) (j := 3) (by decide) (by decide) dL_shocks_155 ?_
  refine lv_iconst (v := 2) hx hb dL_shocks_156 (by decide) ?_
  refine lv_icmp_le (tgt := 164) hx hb dL_shocks_157 (by decide) (fun c__73 => ?_) (fun c__73 => ?_)
  · have hf := qif_t hf c__73
    refine lv_iconst (v := 0) hx hb dL_shocks_164 (by decide) ?_
    exact mL_shocks_L165 (B := B) (S := S) hBM hSM hst hC hr hk17 _ _ _ _ _ _ _ _ _ _ _ _ hj7 hj7 _ _ _ _ _ hf hR (lv_sub hl [0, 1, 2, 3, 4, 5, 6, 7, 8] rfl) (by omega) (by omega) (by omega) (by omega)
  · have hf := qif_f hf c__73
    refine lv_iconst (v := 1) hx hb dL_shocks_160 (by decide) ?_
    refine lv_goto (tgt := 165) hx hb dL_shocks_161 (by decide) ?_
    exact mL_shocks_L165 (B := B) (S := S) hBM hSM hst hC hr hk17 _ _ _ _ _ _ _ _ _ _ _ _ hj7 hj7 _ _ _ _ _ hf hR (lv_sub hl [0, 1, 2, 3, 4, 5, 6, 7, 8] rfl) (by omega) (by omega) (by omega) (by omega)
def fL_shocks_L117 (n : Nat) (a2 : Int32) (k17 : ((Nat → Nat → Int32) → (Nat → Int32) → Int32 → Int32 → Int32 → Int32 → Option ((Nat → Int32) × (Nat → Nat → Int32)))) (M : Nat → Nat → Int32) (f1 : Nat → Int32) (x1 : Int32) (x3 : Int32) (x5 : Int32) (x6 : Int32) (j7 : Nat) (x8 : Int32) (x9 : Int32) (s0 : Int32) (s1 : Int32) (s2 : Int32) (js3 : Nat) : Option ((Nat → Int32) × (Nat → Nat → Int32)) :=
  if qin s2 7 = true then
  qnm (quw M js3 (s2).toNatClampNeg (s1 + s0)) fun (M_69 : Nat → Nat → Int32) =>
  if x9 = 0 then
    fL_shocks_L148 n a2 k17 M_69 f1 x1 x3 x5 x6 j7 x8 (M_69 j7 2) 2 j7
  else
    if M_69 j7 2 ≤ 1 then
      fL_shocks_L148 n a2 k17 M_69 f1 x1 x3 x5 x6 j7 x8 (M_69 j7 2) 2 j7
    else
      fL_shocks_L148 n a2 k17 M_69 f1 x1 x3 x5 x6 j7 x8 ((M_69 j7 2) - 1) 2 j7
  else none
set_option maxHeartbeats 4000000 in
set_option maxRecDepth 100000 in
theorem mL_shocks_L117 {p : Program} {l : Launch} {e : Env} {s : State} {m : MethodId} {args : Array Value} {below : List Frame} {meth : Method} {c : Code} {D : va_G} {G : Nat → ClassId} {ad : Nat → Nat} {gq : Nat} {gr : Nat → Nat} {n : Nat} {a2 : Int32} {M0 : Nat → Nat → Int32} {fF : Nat → Int32} {MF : Nat → Nat → Int32} {k17 : ((Nat → Nat → Int32) → (Nat → Int32) → Int32 → Int32 → Int32 → Int32 → Option ((Nat → Int32) × (Nat → Nat → Int32)))} {B S : Nat} (hBM : B ≤ 28) (hSM : S ≤ 147) (hst : l.stackTraces = false) (hC : lCx p c cL_shocks 10 s m args meth RL D G ad (lX [] [] (lgr G gq gr n M0))) (hr : meth.sig.returnType = some (.array .int)) (hk17 : ∀ (M : Nat → Nat → Int32) (f1 : Nat → Int32) (x1 : Int32) (x3 : Int32) (x5 : Int32) (x6 : Int32) (q1 : Nat) (cc cs : Nat) (H : Heap) (locs : List Loc) (ls : Array Slot), k17 M f1 x1 x3 x5 x6 = some (fF, MF) → lR D (lX [] [] (lgr G gq gr n M0)) (lX [] [(q1, .inl (G 1, 5, .inl f1))] (lgr G gq gr n M)) s H locs → lv_has ls 10 [(0, .ref gq), (1, .int x1), (2, .ref q1), (3, .int x3), (4, .ref gq), (5, .int x5), (6, .int x6)] → cc ≤ B → cs ≤ S → W p l e (qrm 3 28 147) s m args below meth c H locs cc cs (MQ below (lQr (T := Unit) D ad (lX [] [] (lgr G gq gr n M0)) (fun (_ : Unit) (a : Nat) => lX [] [(a, .inl (G 0, 2, .inl fF))] (lgr G gq gr n MF)) (fun _ _ => True) (fun _ _ _ _ _ => True) s) args s 28 147 (va_A (lX [] [] (lgr G gq gr n M0)) s.heap.size)) (F0 m 17 ls [])) : ∀ (M : Nat → Nat → Int32) (f1 : Nat → Int32) (x1 : Int32) (x3 : Int32) (x5 : Int32) (x6 : Int32) (j7 : Nat) (x8 : Int32) (x9 : Int32) (s0 : Int32) (s1 : Int32) (s2 : Int32) (js3 : Nat) (q1 : Nat) (hj7 : j7 < n) (hjs3 : js3 < n) (cc cs : Nat) (H : Heap) (locs : List Loc) (ls : Array Slot), fL_shocks_L117 n a2 k17 M f1 x1 x3 x5 x6 j7 x8 x9 s0 s1 s2 js3 = some (fF, MF) → lR D (lX [] [] (lgr G gq gr n M0)) (lX [] [(q1, .inl (G 1, 5, .inl f1))] (lgr G gq gr n M)) s H locs → lv_has ls 10 [(0, .ref gq), (1, .int x1), (2, .ref q1), (3, .int x3), (4, .ref gq), (5, .int x5), (6, .int x6), (7, .ref (gr j7)), (8, .int x8), (9, .int x9)] → cc ≤ B → cs ≤ S → cc ≤ 28 → cs ≤ 147 → W p l e (qrm 3 28 147) s m args below meth c H locs cc cs (MQ below (lQr (T := Unit) D ad (lX [] [] (lgr G gq gr n M0)) (fun (_ : Unit) (a : Nat) => lX [] [(a, .inl (G 0, 2, .inl fF))] (lgr G gq gr n MF)) (fun _ _ => True) (fun _ _ _ _ _ => True) s) args s 28 147 (va_A (lX [] [] (lgr G gq gr n M0)) s.heap.size)) (F0 m 117 ls [.int s0, .int s1, .int s2, .ref (gr js3)]) := by
  have hx := hC.1
  have hb := hC.2.1
  have hJ := hC.2.2.2.2.2.2.2.1
  intro M f1 x1 x3 x5 x6 j7 x8 x9 s0 s1 s2 js3 q1 hj7 hjs3 cc cs H locs ls hf hR hl hcB hsB hcM hsM
  unfold fL_shocks_L117 at hf
  refine lv_iadd hx hb dL_shocks_117 ?_
  obtain ⟨g_68, hf⟩ := qgd hf
  refine l_rst hC hR hjs3 (j := (s2).toNatClampNeg) g_68 rfl dL_shocks_118 (fun H locs hR => ?_)
  obtain ⟨M_69, eM_69⟩ : ∃ y : Nat → Nat → Int32, y = quw M js3 (s2).toNatClampNeg (s1 + s0) := ⟨_, rfl⟩
  have hf := qnm_t hf eM_69
  rw [← eM_69] at hR
  refine lv_aload hx hb dL_shocks_119 (lv_at hl 7 rfl) ?_
  refine lv_iconst (v := 2) hx hb dL_shocks_121 (by decide) ?_
  refine lv_iload hx hb dL_shocks_122 (lv_at hl 9 rfl) ?_
  refine lv_if_eq (tgt := 144) hx hb dL_shocks_124 (by decide) (fun c__70 => ?_) (fun c__70 => ?_)
  · have hf := qif_t hf c__70
    refine lv_aload hx hb dL_shocks_144 (lv_at hl 7 rfl) ?_
    refine lv_iconst (v := 2) hx hb dL_shocks_146 (by decide) ?_
    refine l_ild hC hR (lgr_mr hj7) (j := 2) (by decide) (by decide) dL_shocks_147 ?_
    exact mL_shocks_L148 (B := B) (S := S) hBM hSM hst hC hr hk17 _ _ _ _ _ _ _ _ _ _ _ _ hj7 hj7 _ _ _ _ _ hf hR (lv_sub hl [0, 1, 2, 3, 4, 5, 6, 7, 8] rfl) (by omega) (by omega) (by omega) (by omega)
  · have hf := qif_f hf c__70
    refine lv_aload hx hb dL_shocks_127 (lv_at hl 7 rfl) ?_
    refine lv_iconst (v := 2) hx hb dL_shocks_129 (by decide) ?_
    refine l_ild hC hR (lgr_mr hj7) (j := 2) (by decide) (by decide) dL_shocks_130 ?_
    refine lv_iconst (v := 1) hx hb dL_shocks_131 (by decide) ?_
    refine lv_icmp_le (tgt := 144) hx hb dL_shocks_132 (by decide) (fun c__86 => ?_) (fun c__86 => ?_)
    · have hf := qif_t hf c__86
      refine lv_aload hx hb dL_shocks_144 (lv_at hl 7 rfl) ?_
      refine lv_iconst (v := 2) hx hb dL_shocks_146 (by decide) ?_
      refine l_ild hC hR (lgr_mr hj7) (j := 2) (by decide) (by decide) dL_shocks_147 ?_
      exact mL_shocks_L148 (B := B) (S := S) hBM hSM hst hC hr hk17 _ _ _ _ _ _ _ _ _ _ _ _ hj7 hj7 _ _ _ _ _ hf hR (lv_sub hl [0, 1, 2, 3, 4, 5, 6, 7, 8] rfl) (by omega) (by omega) (by omega) (by omega)
    · have hf := qif_f hf c__86
      refine lv_aload hx hb dL_shocks_135 (lv_at hl 7 rfl) ?_
      refine lv_iconst (v := 2) hx hb dL_shocks_137 (by decide) ?_
      refine l_ild hC hR (lgr_mr hj7) (j := 2) (by decide) (by decide) dL_shocks_138 ?_
      refine lv_iconst (v := 1) hx hb dL_shocks_139 (by decide) ?_
      refine lv_isub hx hb dL_shocks_140 ?_
      refine lv_goto (tgt := 148) hx hb dL_shocks_141 (by decide) ?_
      exact mL_shocks_L148 (B := B) (S := S) hBM hSM hst hC hr hk17 _ _ _ _ _ _ _ _ _ _ _ _ hj7 hj7 _ _ _ _ _ hf hR (lv_sub hl [0, 1, 2, 3, 4, 5, 6, 7, 8] rfl) (by omega) (by omega) (by omega) (by omega)
def fL_shocks_L100 (n : Nat) (a2 : Int32) (k17 : ((Nat → Nat → Int32) → (Nat → Int32) → Int32 → Int32 → Int32 → Int32 → Option ((Nat → Int32) × (Nat → Nat → Int32)))) (M : Nat → Nat → Int32) (f1 : Nat → Int32) (x1 : Int32) (x3 : Int32) (x5 : Int32) (x6 : Int32) (j7 : Nat) (x8 : Int32) (x9 : Int32) (s0 : Int32) (s1 : Int32) (s2 : Int32) (js3 : Nat) : Option ((Nat → Int32) × (Nat → Nat → Int32)) :=
  if qin s2 7 = true then
  qnm (quw M js3 (s2).toNatClampNeg (s1 + s0)) fun (M_66 : Nat → Nat → Int32) =>
  if x9 = 0 then
    fL_shocks_L117 n a2 k17 M_66 f1 x1 x3 x5 x6 j7 x8 x9 0 (M_66 j7 3) 3 j7
  else
    fL_shocks_L117 n a2 k17 M_66 f1 x1 x3 x5 x6 j7 x8 x9 1 (M_66 j7 3) 3 j7
  else none
set_option maxHeartbeats 4000000 in
set_option maxRecDepth 100000 in
theorem mL_shocks_L100 {p : Program} {l : Launch} {e : Env} {s : State} {m : MethodId} {args : Array Value} {below : List Frame} {meth : Method} {c : Code} {D : va_G} {G : Nat → ClassId} {ad : Nat → Nat} {gq : Nat} {gr : Nat → Nat} {n : Nat} {a2 : Int32} {M0 : Nat → Nat → Int32} {fF : Nat → Int32} {MF : Nat → Nat → Int32} {k17 : ((Nat → Nat → Int32) → (Nat → Int32) → Int32 → Int32 → Int32 → Int32 → Option ((Nat → Int32) × (Nat → Nat → Int32)))} {B S : Nat} (hBM : B ≤ 28) (hSM : S ≤ 147) (hst : l.stackTraces = false) (hC : lCx p c cL_shocks 10 s m args meth RL D G ad (lX [] [] (lgr G gq gr n M0))) (hr : meth.sig.returnType = some (.array .int)) (hk17 : ∀ (M : Nat → Nat → Int32) (f1 : Nat → Int32) (x1 : Int32) (x3 : Int32) (x5 : Int32) (x6 : Int32) (q1 : Nat) (cc cs : Nat) (H : Heap) (locs : List Loc) (ls : Array Slot), k17 M f1 x1 x3 x5 x6 = some (fF, MF) → lR D (lX [] [] (lgr G gq gr n M0)) (lX [] [(q1, .inl (G 1, 5, .inl f1))] (lgr G gq gr n M)) s H locs → lv_has ls 10 [(0, .ref gq), (1, .int x1), (2, .ref q1), (3, .int x3), (4, .ref gq), (5, .int x5), (6, .int x6)] → cc ≤ B → cs ≤ S → W p l e (qrm 3 28 147) s m args below meth c H locs cc cs (MQ below (lQr (T := Unit) D ad (lX [] [] (lgr G gq gr n M0)) (fun (_ : Unit) (a : Nat) => lX [] [(a, .inl (G 0, 2, .inl fF))] (lgr G gq gr n MF)) (fun _ _ => True) (fun _ _ _ _ _ => True) s) args s 28 147 (va_A (lX [] [] (lgr G gq gr n M0)) s.heap.size)) (F0 m 17 ls [])) : ∀ (M : Nat → Nat → Int32) (f1 : Nat → Int32) (x1 : Int32) (x3 : Int32) (x5 : Int32) (x6 : Int32) (j7 : Nat) (x8 : Int32) (x9 : Int32) (s0 : Int32) (s1 : Int32) (s2 : Int32) (js3 : Nat) (q1 : Nat) (hj7 : j7 < n) (hjs3 : js3 < n) (cc cs : Nat) (H : Heap) (locs : List Loc) (ls : Array Slot), fL_shocks_L100 n a2 k17 M f1 x1 x3 x5 x6 j7 x8 x9 s0 s1 s2 js3 = some (fF, MF) → lR D (lX [] [] (lgr G gq gr n M0)) (lX [] [(q1, .inl (G 1, 5, .inl f1))] (lgr G gq gr n M)) s H locs → lv_has ls 10 [(0, .ref gq), (1, .int x1), (2, .ref q1), (3, .int x3), (4, .ref gq), (5, .int x5), (6, .int x6), (7, .ref (gr j7)), (8, .int x8), (9, .int x9)] → cc ≤ B → cs ≤ S → cc ≤ 28 → cs ≤ 147 → W p l e (qrm 3 28 147) s m args below meth c H locs cc cs (MQ below (lQr (T := Unit) D ad (lX [] [] (lgr G gq gr n M0)) (fun (_ : Unit) (a : Nat) => lX [] [(a, .inl (G 0, 2, .inl fF))] (lgr G gq gr n MF)) (fun _ _ => True) (fun _ _ _ _ _ => True) s) args s 28 147 (va_A (lX [] [] (lgr G gq gr n M0)) s.heap.size)) (F0 m 100 ls [.int s0, .int s1, .int s2, .ref (gr js3)]) := by
  have hx := hC.1
  have hb := hC.2.1
  have hJ := hC.2.2.2.2.2.2.2.1
  intro M f1 x1 x3 x5 x6 j7 x8 x9 s0 s1 s2 js3 q1 hj7 hjs3 cc cs H locs ls hf hR hl hcB hsB hcM hsM
  unfold fL_shocks_L100 at hf
  refine lv_iadd hx hb dL_shocks_100 ?_
  obtain ⟨g_65, hf⟩ := qgd hf
  refine l_rst hC hR hjs3 (j := (s2).toNatClampNeg) g_65 rfl dL_shocks_101 (fun H locs hR => ?_)
  obtain ⟨M_66, eM_66⟩ : ∃ y : Nat → Nat → Int32, y = quw M js3 (s2).toNatClampNeg (s1 + s0) := ⟨_, rfl⟩
  have hf := qnm_t hf eM_66
  rw [← eM_66] at hR
  refine lv_aload hx hb dL_shocks_102 (lv_at hl 7 rfl) ?_
  refine lv_iconst (v := 3) hx hb dL_shocks_104 (by decide) ?_
  refine lv_dup2_11 hx hb dL_shocks_105 rfl rfl ?_
  refine l_ild hC hR (lgr_mr hj7) (j := 3) (by decide) (by decide) dL_shocks_106 ?_
  refine lv_iload hx hb dL_shocks_107 (lv_at hl 9 rfl) ?_
  refine lv_if_eq (tgt := 116) hx hb dL_shocks_109 (by decide) (fun c__67 => ?_) (fun c__67 => ?_)
  · have hf := qif_t hf c__67
    refine lv_iconst (v := 0) hx hb dL_shocks_116 (by decide) ?_
    exact mL_shocks_L117 (B := B) (S := S) hBM hSM hst hC hr hk17 _ _ _ _ _ _ _ _ _ _ _ _ _ _ hj7 hj7 _ _ _ _ _ hf hR (lv_sub hl [0, 1, 2, 3, 4, 5, 6, 7, 8, 9] rfl) (by omega) (by omega) (by omega) (by omega)
  · have hf := qif_f hf c__67
    refine lv_iconst (v := 1) hx hb dL_shocks_112 (by decide) ?_
    refine lv_goto (tgt := 117) hx hb dL_shocks_113 (by decide) ?_
    exact mL_shocks_L117 (B := B) (S := S) hBM hSM hst hC hr hk17 _ _ _ _ _ _ _ _ _ _ _ _ _ _ hj7 hj7 _ _ _ _ _ hf hR (lv_sub hl [0, 1, 2, 3, 4, 5, 6, 7, 8, 9] rfl) (by omega) (by omega) (by omega) (by omega)
def fL_shocks_L71 (n : Nat) (a2 : Int32) (k17 : ((Nat → Nat → Int32) → (Nat → Int32) → Int32 → Int32 → Int32 → Int32 → Option ((Nat → Int32) × (Nat → Nat → Int32)))) (M : Nat → Nat → Int32) (f1 : Nat → Int32) (x1 : Int32) (x3 : Int32) (x5 : Int32) (x6 : Int32) (j7 : Nat) (x8 : Int32) (s0 : Int32) : Option ((Nat → Int32) × (Nat → Nat → Int32)) :=
  if s0 = 0 then
    if (2 : Int32) * x8 < M j7 2 then
      fL_shocks_L100 n a2 k17 M f1 x1 x3 x5 x6 j7 x8 s0 0 (M j7 6) 6 j7
    else
      fL_shocks_L100 n a2 k17 M f1 x1 x3 x5 x6 j7 x8 s0 1 (M j7 6) 6 j7
  else
    fL_shocks_L100 n a2 k17 M f1 x1 x3 x5 x6 j7 x8 s0 0 (M j7 6) 6 j7
set_option maxHeartbeats 4000000 in
set_option maxRecDepth 100000 in
theorem mL_shocks_L71 {p : Program} {l : Launch} {e : Env} {s : State} {m : MethodId} {args : Array Value} {below : List Frame} {meth : Method} {c : Code} {D : va_G} {G : Nat → ClassId} {ad : Nat → Nat} {gq : Nat} {gr : Nat → Nat} {n : Nat} {a2 : Int32} {M0 : Nat → Nat → Int32} {fF : Nat → Int32} {MF : Nat → Nat → Int32} {k17 : ((Nat → Nat → Int32) → (Nat → Int32) → Int32 → Int32 → Int32 → Int32 → Option ((Nat → Int32) × (Nat → Nat → Int32)))} {B S : Nat} (hBM : B ≤ 28) (hSM : S ≤ 147) (hst : l.stackTraces = false) (hC : lCx p c cL_shocks 10 s m args meth RL D G ad (lX [] [] (lgr G gq gr n M0))) (hr : meth.sig.returnType = some (.array .int)) (hk17 : ∀ (M : Nat → Nat → Int32) (f1 : Nat → Int32) (x1 : Int32) (x3 : Int32) (x5 : Int32) (x6 : Int32) (q1 : Nat) (cc cs : Nat) (H : Heap) (locs : List Loc) (ls : Array Slot), k17 M f1 x1 x3 x5 x6 = some (fF, MF) → lR D (lX [] [] (lgr G gq gr n M0)) (lX [] [(q1, .inl (G 1, 5, .inl f1))] (lgr G gq gr n M)) s H locs → lv_has ls 10 [(0, .ref gq), (1, .int x1), (2, .ref q1), (3, .int x3), (4, .ref gq), (5, .int x5), (6, .int x6)] → cc ≤ B → cs ≤ S → W p l e (qrm 3 28 147) s m args below meth c H locs cc cs (MQ below (lQr (T := Unit) D ad (lX [] [] (lgr G gq gr n M0)) (fun (_ : Unit) (a : Nat) => lX [] [(a, .inl (G 0, 2, .inl fF))] (lgr G gq gr n MF)) (fun _ _ => True) (fun _ _ _ _ _ => True) s) args s 28 147 (va_A (lX [] [] (lgr G gq gr n M0)) s.heap.size)) (F0 m 17 ls [])) : ∀ (M : Nat → Nat → Int32) (f1 : Nat → Int32) (x1 : Int32) (x3 : Int32) (x5 : Int32) (x6 : Int32) (j7 : Nat) (x8 : Int32) (s0 : Int32) (q1 : Nat) (hj7 : j7 < n) (cc cs : Nat) (H : Heap) (locs : List Loc) (ls : Array Slot), fL_shocks_L71 n a2 k17 M f1 x1 x3 x5 x6 j7 x8 s0 = some (fF, MF) → lR D (lX [] [] (lgr G gq gr n M0)) (lX [] [(q1, .inl (G 1, 5, .inl f1))] (lgr G gq gr n M)) s H locs → lv_has ls 10 [(0, .ref gq), (1, .int x1), (2, .ref q1), (3, .int x3), (4, .ref gq), (5, .int x5), (6, .int x6), (7, .ref (gr j7)), (8, .int x8)] → cc ≤ B → cs ≤ S → cc ≤ 28 → cs ≤ 147 → W p l e (qrm 3 28 147) s m args below meth c H locs cc cs (MQ below (lQr (T := Unit) D ad (lX [] [] (lgr G gq gr n M0)) (fun (_ : Unit) (a : Nat) => lX [] [(a, .inl (G 0, 2, .inl fF))] (lgr G gq gr n MF)) (fun _ _ => True) (fun _ _ _ _ _ => True) s) args s 28 147 (va_A (lX [] [] (lgr G gq gr n M0)) s.heap.size)) (F0 m 71 ls [.int s0]) := by
  have hx := hC.1
  have hb := hC.2.1
  have hJ := hC.2.2.2.2.2.2.2.1
  intro M f1 x1 x3 x5 x6 j7 x8 s0 q1 hj7 cc cs H locs ls hf hR hl hcB hsB hcM hsM
  unfold fL_shocks_L71 at hf
  refine lv_istore (lv' := [(9, .int s0), (0, .ref gq), (1, .int x1), (2, .ref q1), (3, .int x3), (4, .ref gq), (5, .int x5), (6, .int x6), (7, .ref (gr j7)), (8, .int x8)]) hx hb dL_shocks_71 hl (by decide) rfl (fun ls hl => ?_)
  refine lv_aload hx hb dL_shocks_73 (lv_at hl 8 rfl) ?_
  refine lv_bipush (v := 6) hx hb dL_shocks_75 (by decide) ?_
  refine lv_dup2_11 hx hb dL_shocks_77 rfl rfl ?_
  refine l_ild hC hR (lgr_mr hj7) (j := 6) (by decide) (by decide) dL_shocks_78 ?_
  refine lv_iload hx hb dL_shocks_79 (lv_at hl 0 rfl) ?_
  refine lv_if_ne (tgt := 99) hx hb dL_shocks_81 (by decide) (fun c__64 => ?_) (fun c__64 => ?_)
  · have hf := qif_f hf c__64
    refine lv_iconst (v := 0) hx hb dL_shocks_99 (by decide) ?_
    exact mL_shocks_L100 (B := B) (S := S) hBM hSM hst hC hr hk17 _ _ _ _ _ _ _ _ _ _ _ _ _ _ hj7 hj7 _ _ _ _ _ hf hR (lv_sub hl [1, 2, 3, 4, 5, 6, 7, 8, 9, 0] rfl) (by omega) (by omega) (by omega) (by omega)
  · have hf := qif_t hf c__64
    refine lv_iconst (v := 2) hx hb dL_shocks_84 (by decide) ?_
    refine lv_iload hx hb dL_shocks_85 (lv_at hl 9 rfl) ?_
    refine lv_imul hx hb dL_shocks_87 ?_
    refine lv_aload hx hb dL_shocks_88 (lv_at hl 8 rfl) ?_
    refine lv_iconst (v := 2) hx hb dL_shocks_90 (by decide) ?_
    refine l_ild hC hR (lgr_mr hj7) (j := 2) (by decide) (by decide) dL_shocks_91 ?_
    refine lv_icmp_lt (tgt := 99) hx hb dL_shocks_92 (by decide) (fun c__87 => ?_) (fun c__87 => ?_)
    · have hf := qif_t hf c__87
      refine lv_iconst (v := 0) hx hb dL_shocks_99 (by decide) ?_
      exact mL_shocks_L100 (B := B) (S := S) hBM hSM hst hC hr hk17 _ _ _ _ _ _ _ _ _ _ _ _ _ _ hj7 hj7 _ _ _ _ _ hf hR (lv_sub hl [1, 2, 3, 4, 5, 6, 7, 8, 9, 0] rfl) (by omega) (by omega) (by omega) (by omega)
    · have hf := qif_f hf c__87
      refine lv_iconst (v := 1) hx hb dL_shocks_95 (by decide) ?_
      refine lv_goto (tgt := 100) hx hb dL_shocks_96 (by decide) ?_
      exact mL_shocks_L100 (B := B) (S := S) hBM hSM hst hC hr hk17 _ _ _ _ _ _ _ _ _ _ _ _ _ _ hj7 hj7 _ _ _ _ _ hf hR (lv_sub hl [1, 2, 3, 4, 5, 6, 7, 8, 9, 0] rfl) (by omega) (by omega) (by omega) (by omega)
def fL_shocks_L17 (n : Nat) (a2 : Int32)  : Nat → (Nat → Nat → Int32) → (Nat → Int32) → Int32 → Int32 → Int32 → Int32 → Option ((Nat → Int32) × (Nat → Nat → Int32))
  | 0, _, _, _, _, _, _ => none
  | k + 1, M, f1, x1, x3, x5, x6 =>
    if x5 ≤ x6 then
      qnm (Int32.ofNat n) fun (x_4 : Int32) =>
      fL_shocks_L351 n a2 13 M f1 x1 x3 0 x_4 0
    else
      if qin x6 n = true then
      qnm ((x6).toNatClampNeg) fun (j_29 : Nat) =>
      qbd2 (fL_there n M x1 (M j_29 1)) fun (r_31 : Int32) (M_32 : Nat → Nat → Int32) =>
      if M_32 j_29 0 = 1 then
        if M_32 j_29 4 = 0 then
          if r_31 < M_32 j_29 2 then
            fL_shocks_L71 n a2 (fL_shocks_L17 n a2 k) M_32 f1 x1 x3 x5 x6 j_29 r_31 0
          else
            fL_shocks_L71 n a2 (fL_shocks_L17 n a2 k) M_32 f1 x1 x3 x5 x6 j_29 r_31 1
        else
          fL_shocks_L201 n a2 (fL_shocks_L17 n a2 k) M_32 f1 x1 x3 x5 x6 j_29 r_31
      else
        fL_shocks_L201 n a2 (fL_shocks_L17 n a2 k) M_32 f1 x1 x3 x5 x6 j_29 r_31
      else none
set_option maxHeartbeats 4000000 in
set_option maxRecDepth 100000 in
theorem mL_shocks_L17 {p : Program} {l : Launch} {e : Env} {s : State} {m : MethodId} {args : Array Value} {below : List Frame} {meth : Method} {c : Code} {D : va_G} {G : Nat → ClassId} {ad : Nat → Nat} {gq : Nat} {gr : Nat → Nat} {n : Nat} {a2 : Int32} {M0 : Nat → Nat → Int32} {fF : Nat → Int32} {MF : Nat → Nat → Int32} (hst : l.stackTraces = false) (hC : lCx p c cL_shocks 10 s m args meth RL D G ad (lX [] [] (lgr G gq gr n M0))) (hr : meth.sig.returnType = some (.array .int)) : ∀ (k : Nat), ∀ (M : Nat → Nat → Int32) (f1 : Nat → Int32) (x1 : Int32) (x3 : Int32) (x5 : Int32) (x6 : Int32) (q1 : Nat) (cc cs : Nat) (H : Heap) (locs : List Loc) (ls : Array Slot), fL_shocks_L17 n a2 k M f1 x1 x3 x5 x6 = some (fF, MF) → lR D (lX [] [] (lgr G gq gr n M0)) (lX [] [(q1, .inl (G 1, 5, .inl f1))] (lgr G gq gr n M)) s H locs → lv_has ls 10 [(0, .ref gq), (1, .int x1), (2, .ref q1), (3, .int x3), (4, .ref gq), (5, .int x5), (6, .int x6)] → cc + 1 * k + 14 ≤ 28 → cs + 5 * k + 77 ≤ 147 → W p l e (qrm 3 28 147) s m args below meth c H locs cc cs (MQ below (lQr (T := Unit) D ad (lX [] [] (lgr G gq gr n M0)) (fun (_ : Unit) (a : Nat) => lX [] [(a, .inl (G 0, 2, .inl fF))] (lgr G gq gr n MF)) (fun _ _ => True) (fun _ _ _ _ _ => True) s) args s 28 147 (va_A (lX [] [] (lgr G gq gr n M0)) s.heap.size)) (F0 m 17 ls []) := by
  have hx := hC.1
  have hb := hC.2.1
  have hJ := hC.2.2.2.2.2.2.2.1
  intro k
  induction k with
  | zero => intro M f1 x1 x3 x5 x6 q1 cc cs H locs ls hf; exact nomatch (show (none : Option ((Nat → Int32) × (Nat → Nat → Int32))) = some _ from hf)
  | succ k ih =>
    intro M f1 x1 x3 x5 x6 q1 cc cs H locs ls hf hR hl hcM hsM
    rw [fL_shocks_L17] at hf
    refine lv_iload hx hb dL_shocks_17 (lv_at hl 6 rfl) ?_
    refine lv_iload hx hb dL_shocks_19 (lv_at hl 5 rfl) ?_
    refine lv_icmp_ge (tgt := 337) hx hb dL_shocks_21 (by decide) (fun c__3 => ?_) (fun c__3 => ?_)
    · have hf := qif_t hf c__3
      refine lv_iconst (v := 0) hx hb dL_shocks_337 (by decide) ?_
      refine lv_istore (lv' := [(4, .int 0), (0, .ref gq), (1, .int x1), (2, .ref q1), (3, .int x3), (5, .int x5), (6, .int x6)]) hx hb dL_shocks_338 hl (by decide) rfl (fun ls hl => ?_)
      refine lv_aload_n hx hb dL_shocks_340 rfl (lv_at hl 1 rfl) ?_
      refine lv_astore (lv' := [(5, .ref gq), (4, .int 0), (0, .ref gq), (1, .int x1), (2, .ref q1), (3, .int x3), (6, .int x6)]) hx hb dL_shocks_341 hl (by decide) rfl (fun ls hl => ?_)
      refine lv_aload hx hb dL_shocks_343 (lv_at hl 0 rfl) ?_
      refine l_alen hC hR lgr_m0 rfl rfl dL_shocks_345 ?_
      refine lv_topi (fun x_4 ex_4 => ?_)
      have hf := qnm_t hf ex_4
      refine lv_istore (lv' := [(6, .int x_4), (5, .ref gq), (4, .int 0), (0, .ref gq), (1, .int x1), (2, .ref q1), (3, .int x3)]) hx hb dL_shocks_346 hl (by decide) rfl (fun ls hl => ?_)
      refine lv_iconst (v := 0) hx hb dL_shocks_348 (by decide) ?_
      refine lv_istore (lv' := [(7, .int 0), (6, .int x_4), (5, .ref gq), (4, .int 0), (0, .ref gq), (1, .int x1), (2, .ref q1), (3, .int x3)]) hx hb dL_shocks_349 hl (by decide) rfl (fun ls hl => ?_)
      exact mL_shocks_L351 hst hC hr 13 _ _ _ _ _ _ _ _ _ _ _ _ _ hf hR (lv_sub hl [4, 5, 6, 7, 3, 2, 1, 0] rfl) (by omega) (by omega)
    · have hf := qif_f hf c__3
      refine lv_aload hx hb dL_shocks_24 (lv_at hl 4 rfl) ?_
      refine lv_iload hx hb dL_shocks_26 (lv_at hl 6 rfl) ?_
      obtain ⟨g_28, hf⟩ := qgd hf
      obtain ⟨j_29, ej_29⟩ : ∃ y : Nat, y = (x6).toNatClampNeg := ⟨_, rfl⟩
      have hf := qnm_t hf ej_29
      have hj_29 : j_29 < n := by rw [ej_29]; exact lq_lt g_28
      refine l_ald hC hR lgr_m0 (j := j_29) g_28 ej_29.symm dL_shocks_28 ?_
      refine lv_astore (lv' := [(7, .ref (gr j_29)), (0, .ref gq), (1, .int x1), (2, .ref q1), (3, .int x3), (4, .ref gq), (5, .int x5), (6, .int x6)]) hx hb dL_shocks_29 hl (by decide) rfl (fun ls hl => ?_)
      refine lv_aload_n hx hb dL_shocks_31 rfl (lv_at hl 1 rfl) ?_
      refine lv_iload_n hx hb dL_shocks_32 rfl (lv_at hl 2 rfl) ?_
      refine lv_aload hx hb dL_shocks_33 (lv_at hl 0 rfl) ?_
      refine lv_iconst (v := 1) hx hb dL_shocks_35 (by decide) ?_
      refine l_ild hC hR (lgr_mr hj_29) (j := 1) (by decide) (by decide) dL_shocks_36 ?_
      obtain ⟨r_31, M_32, hq_30, hf⟩ := qbd2_s hf
      refine l_callSi hC hR (mL_there hJ hst hq_30) lNo_k trivial lp_GR lp_GR1 qkl_659 qkl_660 qkl_18 qkl_661 qhd_L_there ⟨Nat.le_of_ble_eq_true rfl, Nat.le_of_ble_eq_true rfl⟩ hl.1 rfl (Nat.le_of_ble_eq_true rfl) dL_shocks_37 ⟨by show _ ≤ 28; omega, by show _ ≤ 147; omega⟩ (fun H locs hR hk => ?_)
      refine lv_istore (lv' := [(8, .int r_31), (7, .ref (gr j_29)), (0, .ref gq), (1, .int x1), (2, .ref q1), (3, .int x3), (4, .ref gq), (5, .int x5), (6, .int x6)]) hx hb dL_shocks_40 hl (by decide) rfl (fun ls hl => ?_)
      refine lv_aload hx hb dL_shocks_42 (lv_at hl 1 rfl) ?_
      refine lv_iconst (v := 0) hx hb dL_shocks_44 (by decide) ?_
      refine l_ild hC hR (lgr_mr hj_29) (j := 0) (by decide) (by decide) dL_shocks_45 ?_
      refine lv_iconst (v := 1) hx hb dL_shocks_46 (by decide) ?_
      refine lv_icmp_ne (tgt := 201) hx hb dL_shocks_47 (by decide) (fun c__33 => ?_) (fun c__33 => ?_)
      · have hf := qif_f hf c__33
        exact mL_shocks_L201 (B := cc + 1) (S := cs + 5) (by omega) (by omega) hst hC hr (fun y0 y1 y2 y3 y4 y5 y6 cc2 cs2 H2 locs2 ls2 hf2 hR2 hl2 hc2 hs2 => ih y0 y1 y2 y3 y4 y5 y6 cc2 cs2 H2 locs2 ls2 hf2 hR2 hl2 (by omega) (by omega)) _ _ _ _ _ _ _ _ _ hj_29 _ _ _ _ _ hf hR (lv_sub hl [2, 3, 4, 5, 6, 7, 8, 1, 0] rfl) (by omega) (by omega) (by omega) (by omega)
      · have hf := qif_t hf c__33
        refine lv_aload hx hb dL_shocks_50 (lv_at hl 1 rfl) ?_
        refine lv_iconst (v := 4) hx hb dL_shocks_52 (by decide) ?_
        refine l_ild hC hR (lgr_mr hj_29) (j := 4) (by decide) (by decide) dL_shocks_53 ?_
        refine lv_if_ne (tgt := 201) hx hb dL_shocks_54 (by decide) (fun c__62 => ?_) (fun c__62 => ?_)
        · have hf := qif_f hf c__62
          exact mL_shocks_L201 (B := cc + 1) (S := cs + 5) (by omega) (by omega) hst hC hr (fun y0 y1 y2 y3 y4 y5 y6 cc2 cs2 H2 locs2 ls2 hf2 hR2 hl2 hc2 hs2 => ih y0 y1 y2 y3 y4 y5 y6 cc2 cs2 H2 locs2 ls2 hf2 hR2 hl2 (by omega) (by omega)) _ _ _ _ _ _ _ _ _ hj_29 _ _ _ _ _ hf hR (lv_sub hl [2, 3, 4, 5, 6, 7, 8, 1, 0] rfl) (by omega) (by omega) (by omega) (by omega)
        · have hf := qif_t hf c__62
          refine lv_iload hx hb dL_shocks_57 (lv_at hl 0 rfl) ?_
          refine lv_aload hx hb dL_shocks_59 (lv_at hl 1 rfl) ?_
          refine lv_iconst (v := 2) hx hb dL_shocks_61 (by decide) ?_
          refine l_ild hC hR (lgr_mr hj_29) (j := 2) (by decide) (by decide) dL_shocks_62 ?_
          refine lv_icmp_lt (tgt := 70) hx hb dL_shocks_63 (by decide) (fun c__63 => ?_) (fun c__63 => ?_)
          · have hf := qif_t hf c__63
            refine lv_iconst (v := 0) hx hb dL_shocks_70 (by decide) ?_
            exact mL_shocks_L71 (B := cc + 1) (S := cs + 5) (by omega) (by omega) hst hC hr (fun y0 y1 y2 y3 y4 y5 y6 cc2 cs2 H2 locs2 ls2 hf2 hR2 hl2 hc2 hs2 => ih y0 y1 y2 y3 y4 y5 y6 cc2 cs2 H2 locs2 ls2 hf2 hR2 hl2 (by omega) (by omega)) _ _ _ _ _ _ _ _ _ _ hj_29 _ _ _ _ _ hf hR (lv_sub hl [2, 3, 4, 5, 6, 7, 8, 1, 0] rfl) (by omega) (by omega) (by omega) (by omega)
          · have hf := qif_f hf c__63
            refine lv_iconst (v := 1) hx hb dL_shocks_66 (by decide) ?_
            refine lv_goto (tgt := 71) hx hb dL_shocks_67 (by decide) ?_
            exact mL_shocks_L71 (B := cc + 1) (S := cs + 5) (by omega) (by omega) hst hC hr (fun y0 y1 y2 y3 y4 y5 y6 cc2 cs2 H2 locs2 ls2 hf2 hR2 hl2 hc2 hs2 => ih y0 y1 y2 y3 y4 y5 y6 cc2 cs2 H2 locs2 ls2 hf2 hR2 hl2 (by omega) (by omega)) _ _ _ _ _ _ _ _ _ _ hj_29 _ _ _ _ _ hf hR (lv_sub hl [2, 3, 4, 5, 6, 7, 8, 1, 0] rfl) (by omega) (by omega) (by omega) (by omega)
def fL_shocks (n : Nat) (M0 : Nat → Nat → Int32) (a2 : Int32) : Option ((Nat → Int32) × (Nat → Nat → Int32)) :=
  qnm (Int32.ofNat n) fun (x_2 : Int32) =>
  fL_shocks_L17 n a2 13 M0 (fun _ => 0) a2 0 x_2 0
theorem qhd_L_shocks : yL_shocks.cls ≠ "java/lang/invoke/MethodHandle" ∧ yL_shocks.cls ≠ "java/lang/invoke/VarHandle" ∧ (parseMethodDescriptor yL_shocks.desc).map (fun d => d.parameters.length) = some 2 := ⟨by decide +kernel, by decide +kernel, by decide +kernel⟩
set_option maxHeartbeats 4000000 in
set_option maxRecDepth 100000 in
theorem mL_shocks {l : Launch} {D : va_G} {G : Nat → ClassId} {ad : Nat → Nat} {gq : Nat} {gr : Nat → Nat} {n : Nat} {M0 : Nat → Nat → Int32} {a2 : Int32} {fF : Nat → Int32} {MF : Nat → Nat → Int32} (hJ : qInj ad) (hst : l.stackTraces = false) (hf : fL_shocks n M0 a2 = some (fF, MF)) : lCM l D G ad yL_shocks (Cond.code yL_shocks cL_shocks 10 (some (.array .int))) 3 28 147 [.ref gq, .int a2] (lX [] [] (lgr G gq gr n M0)) (fun _ _ _ => True) (lQr (T := Unit) D ad (lX [] [] (lgr G gq gr n M0)) (fun (_ : Unit) (a : Nat) => lX [] [(a, .inl (G 0, 2, .inl fF))] (lgr G gq gr n MF)) (fun _ _ => True) (fun _ _ _ _ _ => True)) := by
  refine l_start RL rfl (by decide +kernel) hJ (fun a b h => by simp only [lQi, lQl, lQr, h]) (Nat.le_of_ble_eq_true rfl) ?_
  intro p e s m args below meth c ls hC hr _ hE hR hl
  have hx := hC.1
  have hb := hC.2.1
  have hl : lv_has ls 10 [(0, .ref gq), (1, .int a2)] := hl
  unfold fL_shocks at hf
  refine lv_iconst (v := 5) hx hb dL_shocks_0 (by decide) ?_
  refine l_newa (atype := .boolean) hC hR (t := 1) (N := 5) (E := .inl (fun _ => 0)) rfl qka_boolean rfl (fun cA => rfl) (by decide) (by decide) (by decide) (by show _ ≤ 28; omega) (by show _ ≤ 147; omega) dL_shocks_1 (fun q_1 H hR hk => ?_)
  refine lv_astore_n (lv' := [(2, .ref q_1), (0, .ref gq), (1, .int a2)]) hx hb dL_shocks_3 rfl hl (by decide) rfl (fun ls hl => ?_)
  refine lv_iconst (v := 0) hx hb dL_shocks_4 (by decide) ?_
  refine lv_istore_n (lv' := [(3, .int 0), (2, .ref q_1), (0, .ref gq), (1, .int a2)]) hx hb dL_shocks_5 rfl hl (by decide) rfl (fun ls hl => ?_)
  refine lv_aload_n hx hb dL_shocks_6 rfl (lv_at hl 2 rfl) ?_
  refine lv_astore (lv' := [(4, .ref gq), (3, .int 0), (2, .ref q_1), (0, .ref gq), (1, .int a2)]) hx hb dL_shocks_7 hl (by decide) rfl (fun ls hl => ?_)
  refine lv_aload hx hb dL_shocks_9 (lv_at hl 0 rfl) ?_
  refine l_alen hC hR lgr_m0 rfl rfl dL_shocks_11 ?_
  refine lv_topi (fun x_2 ex_2 => ?_)
  have hf := qnm_t hf ex_2
  refine lv_istore (lv' := [(5, .int x_2), (4, .ref gq), (3, .int 0), (2, .ref q_1), (0, .ref gq), (1, .int a2)]) hx hb dL_shocks_12 hl (by decide) rfl (fun ls hl => ?_)
  refine lv_iconst (v := 0) hx hb dL_shocks_14 (by decide) ?_
  refine lv_istore (lv' := [(6, .int 0), (5, .int x_2), (4, .ref gq), (3, .int 0), (2, .ref q_1), (0, .ref gq), (1, .int a2)]) hx hb dL_shocks_15 hl (by decide) rfl (fun ls hl => ?_)
  exact mL_shocks_L17 hst hC hr 13 _ _ _ _ _ _ _ _ _ _ _ _ hf hR (lv_sub hl [5, 6, 4, 3, 2, 1, 0] rfl) (by omega) (by omega)
