def fL_props_L22  (k14 : (qMem → Nat → (Nat → Nat → Int32) → Int32 → Option (Nat × (Nat → Nat → Int32) × qMem))) : Nat → qMem → Nat → (Nat → Nat → Int32) → Int32 → Int32 → Option (Nat × (Nat → Nat → Int32) × qMem)
  | 0, _, _, _, _, _ => none
  | k + 1, w, n, M, x2, x3 =>
    if (7 : Int32) ≤ x3 then
      qnm (x2 + 1) fun (x_12 : Int32) =>
      k14 w n M x_12
    else
      if qin x2 n = true then
      qnm ((x2).toNatClampNeg) fun (j_14 : Nat) =>
      qbd2 (fL_of w x2 x3) fun (r_15 : Int32) (w_16 : qMem) =>
      if qin x3 7 = true then
      qnm (quw M j_14 (x3).toNatClampNeg r_15) fun (M_19 : Nat → Nat → Int32) =>
      qnm (x3 + 1) fun (x_20 : Int32) =>
      fL_props_L22 k14 k w_16 n M_19 x2 x_20
      else none
      else none
set_option maxHeartbeats 4000000 in
set_option maxRecDepth 100000 in
theorem mL_props_L22 {p : Program} {l : Launch} {e : Env} {s : State} {m : MethodId} {args : Array Value} {below : List Frame} {meth : Method} {c : Code} {D : va_G} {G : Nat → ClassId} {ad : Nat → Nat} {w0 : qMem} {nF : Nat} {MF : Nat → Nat → Int32} {wF : qMem} {k14 : (qMem → Nat → (Nat → Nat → Int32) → Int32 → Option (Nat × (Nat → Nat → Int32) × qMem))} {B S : Nat} (hBM : B ≤ 222) (hSM : S ≤ 1350) (hst : l.stackTraces = false) (hC : lCx p c cL_props 4 s m args meth RL D G ad (lX (qcells G ad w0) [] [])) (hr : meth.sig.returnType = some (.array (.array .int))) (hk14 : ∀ (w : qMem) (n : Nat) (M : Nat → Nat → Int32) (x2 : Int32) (gq : Nat) (gr : Nat → Nat) (cc cs : Nat) (H : Heap) (locs : List Loc) (ls : Array Slot), k14 w n M x2 = some (nF, MF, wF) → lR D (lX (qcells G ad w0) [] []) (lX (qcells G ad w) [] (lgr G gq gr n M)) s H locs → lv_has ls 4 [(0, .ref (ad 228)), (1, .ref gq), (2, .int x2)] → cc ≤ B → cs ≤ S → W p l e (qrm 9 222 1350) s m args below meth c H locs cc cs (MQ below (lQr (T := Nat → Nat) D ad (lX (qcells G ad w0) [] []) (fun (u : Nat → Nat) (a : Nat) => lX (qcells G ad wF) [] (lgr G a u nF MF)) (fun _ _ => True) (fun _ _ _ _ _ => True) s) args s 222 1350 (va_A (lX (qcells G ad w0) [] []) s.heap.size)) (F0 m 14 ls [])) : ∀ (k : Nat), ∀ (w : qMem) (n : Nat) (M : Nat → Nat → Int32) (x2 : Int32) (x3 : Int32) (gq : Nat) (gr : Nat → Nat) (cc cs : Nat) (H : Heap) (locs : List Loc) (ls : Array Slot), fL_props_L22 k14 k w n M x2 x3 = some (nF, MF, wF) → lR D (lX (qcells G ad w0) [] []) (lX (qcells G ad w) [] (lgr G gq gr n M)) s H locs → lv_has ls 4 [(0, .ref (ad 228)), (1, .ref gq), (2, .int x2), (3, .int x3)] → cc + 2 * k ≤ B → cs + 12 * k ≤ S → cc + 2 * k ≤ 222 → cs + 12 * k ≤ 1350 → W p l e (qrm 9 222 1350) s m args below meth c H locs cc cs (MQ below (lQr (T := Nat → Nat) D ad (lX (qcells G ad w0) [] []) (fun (u : Nat → Nat) (a : Nat) => lX (qcells G ad wF) [] (lgr G a u nF MF)) (fun _ _ => True) (fun _ _ _ _ _ => True) s) args s 222 1350 (va_A (lX (qcells G ad w0) [] []) s.heap.size)) (F0 m 22 ls []) := by
  have hx := hC.1
  have hb := hC.2.1
  have hJ := hC.2.2.2.2.2.2.2.1
  intro k
  induction k with
  | zero => intro w n M x2 x3 gq gr cc cs H locs ls hf; exact nomatch (show (none : Option (Nat × (Nat → Nat → Int32) × qMem)) = some _ from hf)
  | succ k ih =>
    intro w n M x2 x3 gq gr cc cs H locs ls hf hR hl hcB hsB hcM hsM
    rw [fL_props_L22] at hf
    refine lv_iload_n hx hb dL_props_22 rfl (lv_at hl 3 rfl) ?_
    refine lv_bipush (v := 7) hx hb dL_props_23 (by decide) ?_
    refine lv_icmp_ge (tgt := 45) hx hb dL_props_25 (by decide) (fun c__11 => ?_) (fun c__11 => ?_)
    · have hf := qif_t hf c__11
      obtain ⟨x_12, ex_12⟩ : ∃ y : Int32, y = x2 + 1 := ⟨_, rfl⟩
      have hf := qnm_t hf ex_12
      refine lv_iinc (v := x_12) (lv' := [(2, .int x_12), (0, .ref (ad 228)), (1, .ref gq), (3, .int x3)]) hx hb dL_props_45 hl (k := 2) rfl (by rw [ex_12]; rfl) (by decide) rfl (fun ls hl => ?_)
      refine lv_goto (tgt := 14) hx hb dL_props_48 (by decide) ?_
      exact hk14 _ _ _ _ _ _ _ _ _ _ _ hf hR (lv_sub hl [1, 2, 0] rfl) (by omega) (by omega)
    · have hf := qif_f hf c__11
      refine lv_aload_n hx hb dL_props_28 rfl (lv_at hl 1 rfl) ?_
      refine lv_iload_n hx hb dL_props_29 rfl (lv_at hl 2 rfl) ?_
      obtain ⟨g_13, hf⟩ := qgd hf
      obtain ⟨j_14, ej_14⟩ : ∃ y : Nat, y = (x2).toNatClampNeg := ⟨_, rfl⟩
      have hf := qnm_t hf ej_14
      have hj_14 : j_14 < n := by rw [ej_14]; exact lq_lt g_13
      refine l_ald hC hR lgr_m0 (j := j_14) g_13 ej_14.symm dL_props_30 ?_
      refine lv_iload_n hx hb dL_props_31 rfl (lv_at hl 3 rfl) ?_
      refine lv_aload_n hx hb dL_props_32 rfl (lv_at hl 0 rfl) ?_
      refine lv_iload_n hx hb dL_props_33 rfl (lv_at hl 2 rfl) ?_
      refine lv_iload_n hx hb dL_props_34 rfl (lv_at hl 3 rfl) ?_
      obtain ⟨r_15, w_16, hq_17, hf⟩ := qbd2_s hf
      refine l_callSWi hC hR (l_ofHW hJ (mL_of hJ hst hq_17)) lNo_k trivial lp_C lp_C.symm qkl_647 qkl_648 qkl_18 qkl_649 qhd_L_of ⟨Nat.le_of_ble_eq_true rfl, Nat.le_of_ble_eq_true rfl⟩ hl.1 rfl (Nat.le_of_ble_eq_true rfl) dL_props_35 ⟨by show _ ≤ 222; omega, by show _ ≤ 1350; omega⟩ (fun H locs hR hk => ?_)
      obtain ⟨g_18, hf⟩ := qgd hf
      refine l_rst hC hR hj_14 (j := (x3).toNatClampNeg) g_18 rfl dL_props_38 (fun H locs hR => ?_)
      obtain ⟨M_19, eM_19⟩ : ∃ y : Nat → Nat → Int32, y = quw M j_14 (x3).toNatClampNeg r_15 := ⟨_, rfl⟩
      have hf := qnm_t hf eM_19
      rw [← eM_19] at hR
      obtain ⟨x_20, ex_20⟩ : ∃ y : Int32, y = x3 + 1 := ⟨_, rfl⟩
      have hf := qnm_t hf ex_20
      refine lv_iinc (v := x_20) (lv' := [(3, .int x_20), (0, .ref (ad 228)), (1, .ref gq), (2, .int x2)]) hx hb dL_props_39 hl (k := 3) rfl (by rw [ex_20]; rfl) (by decide) rfl (fun ls hl => ?_)
      refine lv_goto (tgt := 22) hx hb dL_props_42 (by decide) ?_
      exact ih _ _ _ _ _ _ _ _ _ _ _ _ hf hR (lv_sub hl [1, 2, 3, 0] rfl) (by omega) (by omega) (by omega) (by omega)
def fL_props_L14   : Nat → qMem → Nat → (Nat → Nat → Int32) → Int32 → Option (Nat × (Nat → Nat → Int32) × qMem)
  | 0, _, _, _, _ => none
  | k + 1, w, n, M, x2 =>
    if Int32.ofNat n ≤ x2 then
      some (n, M, w)
    else
      fL_props_L22 (fL_props_L14 k) 8 w n M x2 0
set_option maxHeartbeats 4000000 in
set_option maxRecDepth 100000 in
theorem mL_props_L14 {p : Program} {l : Launch} {e : Env} {s : State} {m : MethodId} {args : Array Value} {below : List Frame} {meth : Method} {c : Code} {D : va_G} {G : Nat → ClassId} {ad : Nat → Nat} {w0 : qMem} {nF : Nat} {MF : Nat → Nat → Int32} {wF : qMem} (hst : l.stackTraces = false) (hC : lCx p c cL_props 4 s m args meth RL D G ad (lX (qcells G ad w0) [] [])) (hr : meth.sig.returnType = some (.array (.array .int))) : ∀ (k : Nat), ∀ (w : qMem) (n : Nat) (M : Nat → Nat → Int32) (x2 : Int32) (gq : Nat) (gr : Nat → Nat) (cc cs : Nat) (H : Heap) (locs : List Loc) (ls : Array Slot), fL_props_L14 k w n M x2 = some (nF, MF, wF) → lR D (lX (qcells G ad w0) [] []) (lX (qcells G ad w) [] (lgr G gq gr n M)) s H locs → lv_has ls 4 [(0, .ref (ad 228)), (1, .ref gq), (2, .int x2)] → cc + 16 * k ≤ 222 → cs + 96 * k ≤ 1350 → W p l e (qrm 9 222 1350) s m args below meth c H locs cc cs (MQ below (lQr (T := Nat → Nat) D ad (lX (qcells G ad w0) [] []) (fun (u : Nat → Nat) (a : Nat) => lX (qcells G ad wF) [] (lgr G a u nF MF)) (fun _ _ => True) (fun _ _ _ _ _ => True) s) args s 222 1350 (va_A (lX (qcells G ad w0) [] []) s.heap.size)) (F0 m 14 ls []) := by
  have hx := hC.1
  have hb := hC.2.1
  have hJ := hC.2.2.2.2.2.2.2.1
  intro k
  induction k with
  | zero => intro w n M x2 gq gr cc cs H locs ls hf; exact nomatch (show (none : Option (Nat × (Nat → Nat → Int32) × qMem)) = some _ from hf)
  | succ k ih =>
    intro w n M x2 gq gr cc cs H locs ls hf hR hl hcM hsM
    rw [fL_props_L14] at hf
    refine lv_iload_n hx hb dL_props_14 rfl (lv_at hl 2 rfl) ?_
    refine lv_aload_n hx hb dL_props_15 rfl (lv_at hl 1 rfl) ?_
    refine l_alen hC hR lgr_m0 rfl rfl dL_props_16 ?_
    refine lv_icmp_ge (tgt := 51) hx hb dL_props_17 (by decide) (fun c__10 => ?_) (fun c__10 => ?_)
    · have hf := qif_t hf c__10
      refine lv_aload_n hx hb dL_props_51 rfl (lv_at hl 1 rfl) ?_
      obtain ⟨e1, e2, e3⟩ := qso3 hf
      exact l_aret (X1 := (fun (u : Nat → Nat) (a : Nat) => lX (qcells G ad wF) [] (lgr G a u nF MF))) gr hC hR hr (Or.inr ⟨_, rfl⟩) trivial (by rw [e1, e2, e3]) (fun _ _ _ _ _ _ _ _ _ _ => trivial) trivial dL_props_52 (by omega) (by omega)
    · have hf := qif_f hf c__10
      refine lv_iconst (v := 0) hx hb dL_props_20 (by decide) ?_
      refine lv_istore_n (lv' := [(3, .int 0), (0, .ref (ad 228)), (1, .ref gq), (2, .int x2)]) hx hb dL_props_21 rfl hl (by decide) rfl (fun ls hl => ?_)
      exact mL_props_L22 (B := cc + 16) (S := cs + 96) (by omega) (by omega) hst hC hr (fun y0 y1 y2 y3 y4 y5 cc2 cs2 H2 locs2 ls2 hf2 hR2 hl2 hc2 hs2 => ih y0 y1 y2 y3 y4 y5 cc2 cs2 H2 locs2 ls2 hf2 hR2 hl2 (by omega) (by omega)) 8 _ _ _ _ _ _ _ _ _ _ _ _ hf hR (lv_sub hl [1, 2, 3, 0] rfl) (by omega) (by omega) (by omega) (by omega)
def fL_props (w0 : qMem) : Option (Nat × (Nat → Nat → Int32) × qMem) :=
  qbd3 (fX5_account w0 0) fun (k_3 : Nat) (r_2 : Int32) (w_4 : qMem) =>
  if k_3 = 0 then
  if qin r_2 13 = true then
  qnm ((r_2).toNatClampNeg) fun (n_7 : Nat) =>
  fL_props_L14 13 w_4 n_7 (fun _ _ => 0) 0
  else none
  else none
theorem qhd_L_props : yL_props.cls ≠ "java/lang/invoke/MethodHandle" ∧ yL_props.cls ≠ "java/lang/invoke/VarHandle" ∧ (parseMethodDescriptor yL_props.desc).map (fun d => d.parameters.length) = some 1 := ⟨by decide +kernel, by decide +kernel, by decide +kernel⟩
set_option maxHeartbeats 4000000 in
set_option maxRecDepth 100000 in
theorem mL_props {l : Launch} {D : va_G} {G : Nat → ClassId} {ad : Nat → Nat} {w0 : qMem} {nF : Nat} {MF : Nat → Nat → Int32} {wF : qMem} (hJ : qInj ad) (hst : l.stackTraces = false) (hf : fL_props w0 = some (nF, MF, wF)) : lCM l D G ad yL_props (Cond.code yL_props cL_props 4 (some (.array (.array .int)))) 9 222 1350 [.ref (ad 228)] (lX (qcells G ad w0) [] []) (fun _ _ _ => True) (lQr (T := Nat → Nat) D ad (lX (qcells G ad w0) [] []) (fun (u : Nat → Nat) (a : Nat) => lX (qcells G ad wF) [] (lgr G a u nF MF)) (fun _ _ => True) (fun _ _ _ _ _ => True)) := by
  refine l_start RL rfl (by decide +kernel) hJ (fun a b h => by simp only [lQi, lQl, lQr, h]) (Nat.le_of_ble_eq_true rfl) ?_
  intro p e s m args below meth c ls hC hr _ hE hR hl
  have hx := hC.1
  have hb := hC.2.1
  have hl : lv_has ls 4 [(0, .ref (ad 228))] := hl
  unfold fL_props at hf
  refine lv_aload_n hx hb dL_props_0 rfl (lv_at hl 0 rfl) ?_
  refine lv_iconst (v := 0) hx hb dL_props_1 (by decide) ?_
  obtain ⟨k_3, r_2, w_4, hq_1, hf⟩ := qbd3_s hf
  obtain ⟨h_5, hf⟩ := qgd hf
  refine l_callVi hC hR (l_ofXi hJ (mX5_account hJ hst hq_1) h_5) lNo_k trivial lp_C lp_C.symm (l_recv hC hR (lX_mc (k := 228) (by decide)) rfl) qkl_535 qk_536 qk_537 qk_19 qk_538 qhd_X5_account ⟨Nat.le_of_ble_eq_true rfl, Nat.le_of_ble_eq_true rfl⟩ hl.1 rfl (Nat.le_of_ble_eq_true rfl) dL_props_2 ⟨by show _ ≤ 222; omega, by show _ ≤ 1350; omega⟩ (fun H locs hR hk => ?_)
  refine lv_bipush (v := 7) hx hb dL_props_5 (by decide) ?_
  obtain ⟨g_6, hf⟩ := qgd hf
  obtain ⟨n_7, en_7⟩ : ∃ y : Nat, y = (r_2).toNatClampNeg := ⟨_, rfl⟩
  have hf := qnm_t hf en_7
  have hn_7 : n_7 < 13 := by rw [en_7]; exact lq_lt g_6
  refine l_mna hC hR qkj_645 qka_int (lq_nn g_6) en_7.symm (by omega) (by show _ ≤ 222; omega) (by show _ ≤ 1350; omega) dL_props_7 (fun q_8 r_9 H hR => ?_)
  refine W.widen (k := 0 + 1 + 13) (n := 0 + 6 + 96) (by omega) (by omega) ?_
  refine lv_astore_n (lv' := [(1, .ref q_8), (0, .ref (ad 228))]) hx hb dL_props_11 rfl hl (by decide) rfl (fun ls hl => ?_)
  refine lv_iconst (v := 0) hx hb dL_props_12 (by decide) ?_
  refine lv_istore_n (lv' := [(2, .int 0), (1, .ref q_8), (0, .ref (ad 228))]) hx hb dL_props_13 rfl hl (by decide) rfl (fun ls hl => ?_)
  exact mL_props_L14 hst hC hr 13 _ _ _ _ _ _ _ _ _ _ _ hf hR (lv_sub hl [2, 1, 0] rfl) (by omega) (by omega)
def fL_performs_L13 (n : Nat)  : Nat → qMem → (Nat → Nat → Int32) → (Nat → Int32) → Int32 → Int32 → Option ((Nat → Int32) × qMem × (Nat → Nat → Int32))
  | 0, _, _, _, _, _ => none
  | k + 1, w, M, f1, x3, x4 =>
    qbd3 (fX5_account w 10) fun (k_7 : Nat) (r_6 : Int32) (w_8 : qMem) =>
    if k_7 = 0 then
    if r_6 ≤ x4 then
      some (f1, w_8, M)
    else
      qbd2 (fL_programme w_8 x4) fun (r_11 : Int32) (w_12 : qMem) =>
      qbd2 (fL_shocks n M r_11) fun (f_15 : Nat → Int32) (M_16 : Nat → Nat → Int32) =>
      qnm (upd f1 1 ((f1 1) + (f_15 0))) fun (f_18 : Nat → Int32) =>
      qnm (upd f_18 2 ((f_18 2) + (f_15 1))) fun (f_19 : Nat → Int32) =>
      qnm (upd f_19 3 ((f_19 3) + 1)) fun (f_20 : Nat → Int32) =>
      if x3 ≤ 0 then
        qnm (x4 + 1) fun (x_22 : Int32) =>
        fL_performs_L13 n k w_12 M_16 f_20 x3 x_22
      else
        if f_15 0 < (3 : Int32) * x3 then
          qnm (x4 + 1) fun (x_24 : Int32) =>
          fL_performs_L13 n k w_12 M_16 f_20 x3 x_24
        else
          if r_11 / 2 ≤ 0 then
            qnm (x4 + 1) fun (x_26 : Int32) =>
            fL_performs_L13 n k w_12 M_16 f_20 x3 x_26
          else
            qbd2 (fL_shocks n M_16 (r_11 / 2)) fun (f_28 : Nat → Int32) (M_29 : Nat → Nat → Int32) =>
            qnm (upd f_20 0 ((f_20 0) + 1)) fun (f_31 : Nat → Int32) =>
            qnm (upd f_31 1 ((f_31 1) + (f_28 0))) fun (f_32 : Nat → Int32) =>
            qnm (upd f_32 2 ((f_32 2) + (f_28 1))) fun (f_33 : Nat → Int32) =>
            qnm (upd f_33 3 ((f_33 3) + 1)) fun (f_34 : Nat → Int32) =>
            qnm (x4 + 1) fun (x_35 : Int32) =>
            fL_performs_L13 n k w_12 M_29 f_34 x3 x_35
    else none
set_option maxHeartbeats 4000000 in
set_option maxRecDepth 100000 in
theorem mL_performs_L13 {p : Program} {l : Launch} {e : Env} {s : State} {m : MethodId} {args : Array Value} {below : List Frame} {meth : Method} {c : Code} {D : va_G} {G : Nat → ClassId} {ad : Nat → Nat} {gq : Nat} {gr : Nat → Nat} {n : Nat} {w0 : qMem} {M0 : Nat → Nat → Int32} {fF : Nat → Int32} {wF : qMem} {MF : Nat → Nat → Int32} (hst : l.stackTraces = false) (hC : lCx p c cL_performs 8 s m args meth RL D G ad (lX (qcells G ad w0) [] (lgr G gq gr n M0))) (hr : meth.sig.returnType = some (.array .int)) : ∀ (k : Nat), ∀ (w : qMem) (M : Nat → Nat → Int32) (f1 : Nat → Int32) (x3 : Int32) (x4 : Int32) (q1 : Nat) (cc cs : Nat) (H : Heap) (locs : List Loc) (ls : Array Slot), fL_performs_L13 n k w M f1 x3 x4 = some (fF, wF, MF) → lR D (lX (qcells G ad w0) [] (lgr G gq gr n M0)) (lX (qcells G ad w) [(q1, .inl (G 0, 4, .inl f1))] (lgr G gq gr n M)) s H locs → lv_has ls 8 [(0, .ref (ad 228)), (1, .ref gq), (2, .ref q1), (3, .int x3), (4, .int x4)] → cc + 58 * k + 1 ≤ 582 → cs + 306 * k + 6 ≤ 3070 → W p l e (qrm 8 582 3070) s m args below meth c H locs cc cs (MQ below (lQr (T := Unit) D ad (lX (qcells G ad w0) [] (lgr G gq gr n M0)) (fun (_ : Unit) (a : Nat) => lX (qcells G ad wF) [(a, .inl (G 0, 4, .inl fF))] (lgr G gq gr n MF)) (fun _ _ => True) (fun _ _ _ _ _ => True) s) args s 582 3070 (va_A (lX (qcells G ad w0) [] (lgr G gq gr n M0)) s.heap.size)) (F0 m 13 ls []) := by
  have hx := hC.1
  have hb := hC.2.1
  have hJ := hC.2.2.2.2.2.2.2.1
  intro k
  induction k with
  | zero => intro w M f1 x3 x4 q1 cc cs H locs ls hf; exact nomatch (show (none : Option ((Nat → Int32) × qMem × (Nat → Nat → Int32))) = some _ from hf)
  | succ k ih =>
    intro w M f1 x3 x4 q1 cc cs H locs ls hf hR hl hcM hsM
    rw [fL_performs_L13] at hf
    refine lv_iload hx hb dL_performs_13 (lv_at hl 4 rfl) ?_
    refine lv_aload_n hx hb dL_performs_15 rfl (lv_at hl 0 rfl) ?_
    refine lv_bipush (v := 10) hx hb dL_performs_16 (by decide) ?_
    obtain ⟨k_7, r_6, w_8, hq_5, hf⟩ := qbd3_s hf
    obtain ⟨h_9, hf⟩ := qgd hf
    refine l_callVi hC hR (l_ofXi hJ (mX5_account hJ hst hq_5) h_9) lNo_k trivial lp_C lp_C.symm (l_recv hC hR (lX_mc (k := 228) (by decide)) rfl) qkl_535 qk_536 qk_537 qk_19 qk_538 qhd_X5_account ⟨Nat.le_of_ble_eq_true rfl, Nat.le_of_ble_eq_true rfl⟩ hl.1 rfl (Nat.le_of_ble_eq_true rfl) dL_performs_18 ⟨by show _ ≤ 582; omega, by show _ ≤ 3070; omega⟩ (fun H locs hR hk => ?_)
    refine lv_icmp_ge (tgt := 138) hx hb dL_performs_21 (by decide) (fun c__10 => ?_) (fun c__10 => ?_)
    · have hf := qif_t hf c__10
      refine lv_aload_n hx hb dL_performs_138 rfl (lv_at hl 2 rfl) ?_
      obtain ⟨e1, e2, e3⟩ := qso3 hf
      exact l_aret (X1 := (fun (_ : Unit) (a : Nat) => lX (qcells G ad wF) [(a, .inl (G 0, 4, .inl fF))] (lgr G gq gr n MF))) () hC hR hr (Or.inr ⟨_, rfl⟩) trivial (by rw [e1, e2, e3]) (fun _ _ _ _ _ _ _ _ _ _ => trivial) trivial dL_performs_139 (by omega) (by omega)
    · have hf := qif_f hf c__10
      refine lv_aload_n hx hb dL_performs_24 rfl (lv_at hl 0 rfl) ?_
      refine lv_iload hx hb dL_performs_25 (lv_at hl 4 rfl) ?_
      obtain ⟨r_11, w_12, hq_13, hf⟩ := qbd2_s hf
      refine l_callSWi hC hR (l_ofHW hJ (mL_programme hJ hst hq_13)) lNo_k trivial lp_C lp_C.symm qkl_750 qkl_751 qkl_18 qkl_752 qhd_L_programme ⟨Nat.le_of_ble_eq_true rfl, Nat.le_of_ble_eq_true rfl⟩ hl.1 rfl (Nat.le_of_ble_eq_true rfl) dL_performs_27 ⟨by show _ ≤ 582; omega, by show _ ≤ 3070; omega⟩ (fun H locs hR hk => ?_)
      refine lv_istore (lv' := [(5, .int r_11), (0, .ref (ad 228)), (1, .ref gq), (2, .ref q1), (3, .int x3), (4, .int x4)]) hx hb dL_performs_30 hl (by decide) rfl (fun ls hl => ?_)
      refine lv_aload_n hx hb dL_performs_32 rfl (lv_at hl 2 rfl) ?_
      refine lv_iload hx hb dL_performs_33 (lv_at hl 0 rfl) ?_
      obtain ⟨f_15, M_16, hq_14, hf⟩ := qbd2_s hf
      refine l_callSr hC hR (mL_shocks hJ hst hq_14) lNo_k trivial lp_GR (fun _ _ => lp_Gz) qkl_682 qkl_683 qkl_18 qkl_684 qhd_L_shocks ⟨Nat.le_of_ble_eq_true rfl, Nat.le_of_ble_eq_true rfl⟩ hl.1 rfl (Nat.le_of_ble_eq_true rfl) dL_performs_35 ⟨by show _ ≤ 582; omega, by show _ ≤ 3070; omega⟩ (fun _ _ => lNo_k) (fun _ q_17 H locs _ hR hk _ => ?_)
      refine lv_astore (lv' := [(6, .ref q_17), (5, .int r_11), (0, .ref (ad 228)), (1, .ref gq), (2, .ref q1), (3, .int x3), (4, .int x4)]) hx hb dL_performs_38 hl (by decide) rfl (fun ls hl => ?_)
      refine lv_aload_n hx hb dL_performs_40 rfl (lv_at hl 4 rfl) ?_
      refine lv_iconst (v := 1) hx hb dL_performs_41 (by decide) ?_
      refine lv_dup2_11 hx hb dL_performs_42 rfl rfl ?_
      refine l_ild hC hR (lX_mx 1 rfl) (j := 1) (by decide) (by decide) dL_performs_43 ?_
      refine lv_aload hx hb dL_performs_44 (lv_at hl 0 rfl) ?_
      refine lv_iconst (v := 0) hx hb dL_performs_46 (by decide) ?_
      refine l_ild hC hR (lX_mx 0 rfl) (j := 0) (by decide) (by decide) dL_performs_47 ?_
      refine lv_iadd hx hb dL_performs_48 ?_
      refine l_ist hC hR 1 rfl (j := 1) (by decide) (by decide) dL_performs_49 (fun H locs hR => ?_)
      obtain ⟨f_18, ef_18⟩ : ∃ y : Nat → Int32, y = upd f1 1 ((f1 1) + (f_15 0)) := ⟨_, rfl⟩
      have hf := qnm_t hf ef_18
      have hR : lR D (lX (qcells G ad w0) [] (lgr G gq gr n M0)) (lX (qcells G ad w_12) [(q_17, .inl (G 0, 2, .inl f_15)), (q1, .inl (G 0, 4, .inl f_18))] (lgr G gq gr n M_16)) s H locs := by rw [ef_18]; exact hR
      refine lv_aload_n hx hb dL_performs_50 rfl (lv_at hl 4 rfl) ?_
      refine lv_iconst (v := 2) hx hb dL_performs_51 (by decide) ?_
      refine lv_dup2_11 hx hb dL_performs_52 rfl rfl ?_
      refine l_ild hC hR (lX_mx 1 rfl) (j := 2) (by decide) (by decide) dL_performs_53 ?_
      refine lv_aload hx hb dL_performs_54 (lv_at hl 0 rfl) ?_
      refine lv_iconst (v := 1) hx hb dL_performs_56 (by decide) ?_
      refine l_ild hC hR (lX_mx 0 rfl) (j := 1) (by decide) (by decide) dL_performs_57 ?_
      refine lv_iadd hx hb dL_performs_58 ?_
      refine l_ist hC hR 1 rfl (j := 2) (by decide) (by decide) dL_performs_59 (fun H locs hR => ?_)
      obtain ⟨f_19, ef_19⟩ : ∃ y : Nat → Int32, y = upd f_18 2 ((f_18 2) + (f_15 1)) := ⟨_, rfl⟩
      have hf := qnm_t hf ef_19
      have hR : lR D (lX (qcells G ad w0) [] (lgr G gq gr n M0)) (lX (qcells G ad w_12) [(q_17, .inl (G 0, 2, .inl f_15)), (q1, .inl (G 0, 4, .inl f_19))] (lgr G gq gr n M_16)) s H locs := by rw [ef_19]; exact hR
      refine lv_aload_n hx hb dL_performs_60 rfl (lv_at hl 4 rfl) ?_
      refine lv_iconst (v := 3) hx hb dL_performs_61 (by decide) ?_
      refine lv_dup2_11 hx hb dL_performs_62 rfl rfl ?_
      refine l_ild hC hR (lX_mx 1 rfl) (j := 3) (by decide) (by decide) dL_performs_63 ?_
      refine lv_iconst (v := 1) hx hb dL_performs_64 (by decide) ?_
      refine lv_iadd hx hb dL_performs_65 ?_
      refine l_ist hC hR 1 rfl (j := 3) (by decide) (by decide) dL_performs_66 (fun H locs hR => ?_)
      obtain ⟨f_20, ef_20⟩ : ∃ y : Nat → Int32, y = upd f_19 3 ((f_19 3) + 1) := ⟨_, rfl⟩
      have hf := qnm_t hf ef_20
      have hR : lR D (lX (qcells G ad w0) [] (lgr G gq gr n M0)) (lX (qcells G ad w_12) [(q_17, .inl (G 0, 2, .inl f_15)), (q1, .inl (G 0, 4, .inl f_20))] (lgr G gq gr n M_16)) s H locs := by rw [ef_20]; exact hR
      refine lv_iload_n hx hb dL_performs_67 rfl (lv_at hl 5 rfl) ?_
      refine lv_if_le (tgt := 132) hx hb dL_performs_68 (by decide) (fun c__21 => ?_) (fun c__21 => ?_)
      · have hf := qif_t hf c__21
        obtain ⟨x_22, ex_22⟩ : ∃ y : Int32, y = x4 + 1 := ⟨_, rfl⟩
        have hf := qnm_t hf ex_22
        refine lv_iinc (v := x_22) (lv' := [(4, .int x_22), (6, .ref q_17), (5, .int r_11), (0, .ref (ad 228)), (1, .ref gq), (2, .ref q1), (3, .int x3)]) hx hb dL_performs_132 hl (k := 6) rfl (by rw [ex_22]; rfl) (by decide) rfl (fun ls hl => ?_)
        refine lv_goto (tgt := 13) hx hb dL_performs_135 (by decide) ?_
        have hR := lR_pick hR [1] (ex1 := [(q1, .inl (G 0, 4, .inl f_20))]) (g1 := (lgr G gq gr n M_16)) (by decide) rfl (Or.inl rfl)
        exact ih _ _ _ _ _ _ _ _ _ _ _ hf hR (lv_sub hl [3, 4, 5, 6, 0] rfl) (by omega) (by omega)
      · have hf := qif_f hf c__21
        refine lv_aload hx hb dL_performs_71 (lv_at hl 0 rfl) ?_
        refine lv_iconst (v := 0) hx hb dL_performs_73 (by decide) ?_
        refine l_ild hC hR (lX_mx 0 rfl) (j := 0) (by decide) (by decide) dL_performs_74 ?_
        refine lv_iconst (v := 3) hx hb dL_performs_75 (by decide) ?_
        refine lv_iload_n hx hb dL_performs_76 rfl (lv_at hl 5 rfl) ?_
        refine lv_imul hx hb dL_performs_77 ?_
        refine lv_icmp_lt (tgt := 132) hx hb dL_performs_78 (by decide) (fun c__23 => ?_) (fun c__23 => ?_)
        · have hf := qif_t hf c__23
          obtain ⟨x_24, ex_24⟩ : ∃ y : Int32, y = x4 + 1 := ⟨_, rfl⟩
          have hf := qnm_t hf ex_24
          refine lv_iinc (v := x_24) (lv' := [(4, .int x_24), (6, .ref q_17), (5, .int r_11), (0, .ref (ad 228)), (1, .ref gq), (2, .ref q1), (3, .int x3)]) hx hb dL_performs_132 hl (k := 6) rfl (by rw [ex_24]; rfl) (by decide) rfl (fun ls hl => ?_)
          refine lv_goto (tgt := 13) hx hb dL_performs_135 (by decide) ?_
          have hR := lR_pick hR [1] (ex1 := [(q1, .inl (G 0, 4, .inl f_20))]) (g1 := (lgr G gq gr n M_16)) (by decide) rfl (Or.inl rfl)
          exact ih _ _ _ _ _ _ _ _ _ _ _ hf hR (lv_sub hl [3, 4, 5, 6, 0] rfl) (by omega) (by omega)
        · have hf := qif_f hf c__23
          refine lv_iload hx hb dL_performs_81 (lv_at hl 1 rfl) ?_
          refine lv_iconst (v := 2) hx hb dL_performs_83 (by decide) ?_
          refine lv_idiv hx hb dL_performs_84 (by decide) ?_
          refine lv_if_le (tgt := 132) hx hb dL_performs_85 (by decide) (fun c__25 => ?_) (fun c__25 => ?_)
          · have hf := qif_t hf c__25
            obtain ⟨x_26, ex_26⟩ : ∃ y : Int32, y = x4 + 1 := ⟨_, rfl⟩
            have hf := qnm_t hf ex_26
            refine lv_iinc (v := x_26) (lv' := [(4, .int x_26), (6, .ref q_17), (5, .int r_11), (0, .ref (ad 228)), (1, .ref gq), (2, .ref q1), (3, .int x3)]) hx hb dL_performs_132 hl (k := 6) rfl (by rw [ex_26]; rfl) (by decide) rfl (fun ls hl => ?_)
            refine lv_goto (tgt := 13) hx hb dL_performs_135 (by decide) ?_
            have hR := lR_pick hR [1] (ex1 := [(q1, .inl (G 0, 4, .inl f_20))]) (g1 := (lgr G gq gr n M_16)) (by decide) rfl (Or.inl rfl)
            exact ih _ _ _ _ _ _ _ _ _ _ _ hf hR (lv_sub hl [3, 4, 5, 6, 0] rfl) (by omega) (by omega)
          · have hf := qif_f hf c__25
            refine lv_aload_n hx hb dL_performs_88 rfl (lv_at hl 3 rfl) ?_
            refine lv_iload hx hb dL_performs_89 (lv_at hl 1 rfl) ?_
            refine lv_iconst (v := 2) hx hb dL_performs_91 (by decide) ?_
            refine lv_idiv hx hb dL_performs_92 (by decide) ?_
            obtain ⟨f_28, M_29, hq_27, hf⟩ := qbd2_s hf
            refine l_callSr hC hR (mL_shocks hJ hst hq_27) lNo_k trivial lp_GR (fun _ _ => lp_Gz) qkl_682 qkl_683 qkl_18 qkl_684 qhd_L_shocks ⟨Nat.le_of_ble_eq_true rfl, Nat.le_of_ble_eq_true rfl⟩ hl.1 rfl (Nat.le_of_ble_eq_true rfl) dL_performs_93 ⟨by show _ ≤ 582; omega, by show _ ≤ 3070; omega⟩ (fun _ _ => lNo_k) (fun _ q_30 H locs _ hR hk _ => ?_)
            refine lv_astore (lv' := [(7, .ref q_30), (6, .ref q_17), (5, .int r_11), (0, .ref (ad 228)), (1, .ref gq), (2, .ref q1), (3, .int x3), (4, .int x4)]) hx hb dL_performs_96 hl (by decide) rfl (fun ls hl => ?_)
            refine lv_aload_n hx hb dL_performs_98 rfl (lv_at hl 5 rfl) ?_
            refine lv_iconst (v := 0) hx hb dL_performs_99 (by decide) ?_
            refine lv_dup2_11 hx hb dL_performs_100 rfl rfl ?_
            refine l_ild hC hR (lX_mx 2 rfl) (j := 0) (by decide) (by decide) dL_performs_101 ?_
            refine lv_iconst (v := 1) hx hb dL_performs_102 (by decide) ?_
            refine lv_iadd hx hb dL_performs_103 ?_
            refine l_ist hC hR 2 rfl (j := 0) (by decide) (by decide) dL_performs_104 (fun H locs hR => ?_)
            obtain ⟨f_31, ef_31⟩ : ∃ y : Nat → Int32, y = upd f_20 0 ((f_20 0) + 1) := ⟨_, rfl⟩
            have hf := qnm_t hf ef_31
            have hR : lR D (lX (qcells G ad w0) [] (lgr G gq gr n M0)) (lX (qcells G ad w_12) [(q_30, .inl (G 0, 2, .inl f_28)), (q_17, .inl (G 0, 2, .inl f_15)), (q1, .inl (G 0, 4, .inl f_31))] (lgr G gq gr n M_29)) s H locs := by rw [ef_31]; exact hR
            refine lv_aload_n hx hb dL_performs_105 rfl (lv_at hl 5 rfl) ?_
            refine lv_iconst (v := 1) hx hb dL_performs_106 (by decide) ?_
            refine lv_dup2_11 hx hb dL_performs_107 rfl rfl ?_
            refine l_ild hC hR (lX_mx 2 rfl) (j := 1) (by decide) (by decide) dL_performs_108 ?_
            refine lv_aload hx hb dL_performs_109 (lv_at hl 0 rfl) ?_
            refine lv_iconst (v := 0) hx hb dL_performs_111 (by decide) ?_
            refine l_ild hC hR (lX_mx 0 rfl) (j := 0) (by decide) (by decide) dL_performs_112 ?_
            refine lv_iadd hx hb dL_performs_113 ?_
            refine l_ist hC hR 2 rfl (j := 1) (by decide) (by decide) dL_performs_114 (fun H locs hR => ?_)
            obtain ⟨f_32, ef_32⟩ : ∃ y : Nat → Int32, y = upd f_31 1 ((f_31 1) + (f_28 0)) := ⟨_, rfl⟩
            have hf := qnm_t hf ef_32
            have hR : lR D (lX (qcells G ad w0) [] (lgr G gq gr n M0)) (lX (qcells G ad w_12) [(q_30, .inl (G 0, 2, .inl f_28)), (q_17, .inl (G 0, 2, .inl f_15)), (q1, .inl (G 0, 4, .inl f_32))] (lgr G gq gr n M_29)) s H locs := by rw [ef_32]; exact hR
            refine lv_aload_n hx hb dL_performs_115 rfl (lv_at hl 5 rfl) ?_
            refine lv_iconst (v := 2) hx hb dL_performs_116 (by decide) ?_
            refine lv_dup2_11 hx hb dL_performs_117 rfl rfl ?_
            refine l_ild hC hR (lX_mx 2 rfl) (j := 2) (by decide) (by decide) dL_performs_118 ?_
            refine lv_aload hx hb dL_performs_119 (lv_at hl 0 rfl) ?_
            refine lv_iconst (v := 1) hx hb dL_performs_121 (by decide) ?_
            refine l_ild hC hR (lX_mx 0 rfl) (j := 1) (by decide) (by decide) dL_performs_122 ?_
            refine lv_iadd hx hb dL_performs_123 ?_
            refine l_ist hC hR 2 rfl (j := 2) (by decide) (by decide) dL_performs_124 (fun H locs hR => ?_)
            obtain ⟨f_33, ef_33⟩ : ∃ y : Nat → Int32, y = upd f_32 2 ((f_32 2) + (f_28 1)) := ⟨_, rfl⟩
            have hf := qnm_t hf ef_33
            have hR : lR D (lX (qcells G ad w0) [] (lgr G gq gr n M0)) (lX (qcells G ad w_12) [(q_30, .inl (G 0, 2, .inl f_28)), (q_17, .inl (G 0, 2, .inl f_15)), (q1, .inl (G 0, 4, .inl f_33))] (lgr G gq gr n M_29)) s H locs := by rw [ef_33]; exact hR
            refine lv_aload_n hx hb dL_performs_125 rfl (lv_at hl 5 rfl) ?_
            refine lv_iconst (v := 3) hx hb dL_performs_126 (by decide) ?_
            refine lv_dup2_11 hx hb dL_performs_127 rfl rfl ?_
            refine l_ild hC hR (lX_mx 2 rfl) (j := 3) (by decide) (by decide) dL_performs_128 ?_
            refine lv_iconst (v := 1) hx hb dL_performs_129 (by decide) ?_
            refine lv_iadd hx hb dL_performs_130 ?_
            refine l_ist hC hR 2 rfl (j := 3) (by decide) (by decide) dL_performs_131 (fun H locs hR => ?_)
            obtain ⟨f_34, ef_34⟩ : ∃ y : Nat → Int32, y = upd f_33 3 ((f_33 3) + 1) := ⟨_, rfl⟩
            have hf := qnm_t hf ef_34
            have hR : lR D (lX (qcells G ad w0) [] (lgr G gq gr n M0)) (lX (qcells G ad w_12) [(q_30, .inl (G 0, 2, .inl f_28)), (q_17, .inl (G 0, 2, .inl f_15)), (q1, .inl (G 0, 4, .inl f_34))] (lgr G gq gr n M_29)) s H locs := by rw [ef_34]; exact hR
            obtain ⟨x_35, ex_35⟩ : ∃ y : Int32, y = x4 + 1 := ⟨_, rfl⟩
            have hf := qnm_t hf ex_35
            refine lv_iinc (v := x_35) (lv' := [(4, .int x_35), (7, .ref q_30), (6, .ref q_17), (5, .int r_11), (0, .ref (ad 228)), (1, .ref gq), (2, .ref q1), (3, .int x3)]) hx hb dL_performs_132 hl (k := 7) rfl (by rw [ex_35]; rfl) (by decide) rfl (fun ls hl => ?_)
            refine lv_goto (tgt := 13) hx hb dL_performs_135 (by decide) ?_
            have hR := lR_pick hR [2] (ex1 := [(q1, .inl (G 0, 4, .inl f_34))]) (g1 := (lgr G gq gr n M_29)) (by decide) rfl (Or.inl rfl)
            exact ih _ _ _ _ _ _ _ _ _ _ _ hf hR (lv_sub hl [4, 5, 6, 7, 0] rfl) (by omega) (by omega)
def fL_performs (w0 : qMem) (n : Nat) (M0 : Nat → Nat → Int32) : Option ((Nat → Int32) × qMem × (Nat → Nat → Int32)) :=
  qbd2 (fL_many n M0 3) fun (r_3 : Int32) (M_4 : Nat → Nat → Int32) =>
  fL_performs_L13 n 10 w0 M_4 (fun _ => 0) r_3 0
theorem qhd_L_performs : yL_performs.cls ≠ "java/lang/invoke/MethodHandle" ∧ yL_performs.cls ≠ "java/lang/invoke/VarHandle" ∧ (parseMethodDescriptor yL_performs.desc).map (fun d => d.parameters.length) = some 2 := ⟨by decide +kernel, by decide +kernel, by decide +kernel⟩
set_option maxHeartbeats 4000000 in
set_option maxRecDepth 100000 in
theorem mL_performs {l : Launch} {D : va_G} {G : Nat → ClassId} {ad : Nat → Nat} {gq : Nat} {gr : Nat → Nat} {w0 : qMem} {n : Nat} {M0 : Nat → Nat → Int32} {fF : Nat → Int32} {wF : qMem} {MF : Nat → Nat → Int32} (hJ : qInj ad) (hst : l.stackTraces = false) (hf : fL_performs w0 n M0 = some (fF, wF, MF)) : lCM l D G ad yL_performs (Cond.code yL_performs cL_performs 8 (some (.array .int))) 8 582 3070 [.ref (ad 228), .ref gq] (lX (qcells G ad w0) [] (lgr G gq gr n M0)) (fun _ _ _ => True) (lQr (T := Unit) D ad (lX (qcells G ad w0) [] (lgr G gq gr n M0)) (fun (_ : Unit) (a : Nat) => lX (qcells G ad wF) [(a, .inl (G 0, 4, .inl fF))] (lgr G gq gr n MF)) (fun _ _ => True) (fun _ _ _ _ _ => True)) := by
  refine l_start RL rfl (by decide +kernel) hJ (fun a b h => by simp only [lQi, lQl, lQr, h]) (Nat.le_of_ble_eq_true rfl) ?_
  intro p e s m args below meth c ls hC hr _ hE hR hl
  have hx := hC.1
  have hb := hC.2.1
  have hl : lv_has ls 8 [(0, .ref (ad 228)), (1, .ref gq)] := hl
  unfold fL_performs at hf
  refine lv_iconst (v := 4) hx hb dL_performs_0 (by decide) ?_
  refine l_newa (atype := .int) hC hR (t := 0) (N := 4) (E := .inl (fun _ => 0)) rfl qka_int rfl (fun cA => rfl) (by decide) (by decide) (by decide) (by show _ ≤ 582; omega) (by show _ ≤ 3070; omega) dL_performs_1 (fun q_1 H hR hk => ?_)
  refine lv_astore_n (lv' := [(2, .ref q_1), (0, .ref (ad 228)), (1, .ref gq)]) hx hb dL_performs_3 rfl hl (by decide) rfl (fun ls hl => ?_)
  refine lv_aload_n hx hb dL_performs_4 rfl (lv_at hl 2 rfl) ?_
  refine lv_iconst (v := 3) hx hb dL_performs_5 (by decide) ?_
  obtain ⟨r_3, M_4, hq_2, hf⟩ := qbd2_s hf
  refine l_callSi hC hR (mL_many hJ hst hq_2) lNo_k trivial lp_GR lp_GR1 qkl_747 qkl_748 qkl_18 qkl_749 qhd_L_many ⟨Nat.le_of_ble_eq_true rfl, Nat.le_of_ble_eq_true rfl⟩ hl.1 rfl (Nat.le_of_ble_eq_true rfl) dL_performs_6 ⟨by show _ ≤ 582; omega, by show _ ≤ 3070; omega⟩ (fun H locs hR hk => ?_)
  refine lv_istore_n (lv' := [(3, .int r_3), (2, .ref q_1), (0, .ref (ad 228)), (1, .ref gq)]) hx hb dL_performs_9 rfl hl (by decide) rfl (fun ls hl => ?_)
  refine lv_iconst (v := 0) hx hb dL_performs_10 (by decide) ?_
  refine lv_istore (lv' := [(4, .int 0), (3, .int r_3), (2, .ref q_1), (0, .ref (ad 228)), (1, .ref gq)]) hx hb dL_performs_11 hl (by decide) rfl (fun ls hl => ?_)
  exact mL_performs_L13 hst hC hr 10 _ _ _ _ _ _ _ _ _ _ _ hf hR (lv_sub hl [3, 4, 2, 1, 0] rfl) (by omega) (by omega)
def fL_sum_L73   : Nat → qMem → Int64 → Int32 → Option (Int64 × qMem)
  | 0, _, _, _ => none
  | k + 1, w, x1, x3 =>
    qbd3 (fX5_account w 10) fun (k_10 : Nat) (r_9 : Int32) (w_11 : qMem) =>
    if k_10 = 0 then
    if r_9 ≤ x3 then
      some (x1, w_11)
    else
      qbd2 (fL_programme w_11 x3) fun (r_14 : Int32) (w_15 : qMem) =>
      qnm (((41 : Int64) * x1) + (Int32.toInt64 r_14)) fun (h_17 : Int64) =>
      qnm (x3 + 1) fun (x_18 : Int32) =>
      fL_sum_L73 k w_15 h_17 x_18
    else none
set_option maxHeartbeats 4000000 in
set_option maxRecDepth 100000 in
theorem mL_sum_L73 {p : Program} {l : Launch} {e : Env} {s : State} {m : MethodId} {args : Array Value} {below : List Frame} {meth : Method} {c : Code} {D : va_G} {G : Nat → ClassId} {ad : Nat → Nat} {w0 : qMem} {rF : Int64} {wF : qMem} (hst : l.stackTraces = false) (hC : lCx p c cL_sum 4 s m args meth RL D G ad (lX (qcells G ad w0) [] [])) (hr : meth.sig.returnType = some .long) : ∀ (k : Nat), ∀ (w : qMem) (x1 : Int64) (x3 : Int32) (cc cs : Nat) (H : Heap) (locs : List Loc) (ls : Array Slot), fL_sum_L73 k w x1 x3 = some (rF, wF) → lR D (lX (qcells G ad w0) [] []) (lX (qcells G ad w) [] []) s H locs → lv_has ls 4 [(0, .ref (ad 228)), (1, .long x1), (3, .int x3)] → cc + 2 * k + 1 ≤ 292 → cs + 12 * k + 6 ≤ 1752 → W p l e (qrm 9 292 1752) s m args below meth c H locs cc cs (MQ below (lQl D (lX (qcells G ad w0) [] []) (lX (qcells G ad wF) [] []) s rF) args s 292 1752 (va_A (lX (qcells G ad w0) [] []) s.heap.size)) (F0 m 73 ls []) := by
  have hx := hC.1
  have hb := hC.2.1
  have hJ := hC.2.2.2.2.2.2.2.1
  intro k
  induction k with
  | zero => intro w x1 x3 cc cs H locs ls hf; exact nomatch (show (none : Option (Int64 × qMem)) = some _ from hf)
  | succ k ih =>
    intro w x1 x3 cc cs H locs ls hf hR hl hcM hsM
    rw [fL_sum_L73] at hf
    refine lv_iload_n hx hb dL_sum_73 rfl (lv_at hl 2 rfl) ?_
    refine lv_aload_n hx hb dL_sum_74 rfl (lv_at hl 0 rfl) ?_
    refine lv_bipush (v := 10) hx hb dL_sum_75 (by decide) ?_
    obtain ⟨k_10, r_9, w_11, hq_8, hf⟩ := qbd3_s hf
    obtain ⟨h_12, hf⟩ := qgd hf
    refine l_callVi hC hR (l_ofXi hJ (mX5_account hJ hst hq_8) h_12) lNo_k trivial lp_C lp_C.symm (l_recv hC hR (lX_mc (k := 228) (by decide)) rfl) qkl_535 qk_536 qk_537 qk_19 qk_538 qhd_X5_account ⟨Nat.le_of_ble_eq_true rfl, Nat.le_of_ble_eq_true rfl⟩ hl.1 rfl (Nat.le_of_ble_eq_true rfl) dL_sum_77 ⟨by show _ ≤ 292; omega, by show _ ≤ 1752; omega⟩ (fun H locs hR hk => ?_)
    refine lv_icmp_ge (tgt := 102) hx hb dL_sum_80 (by decide) (fun c__13 => ?_) (fun c__13 => ?_)
    · have hf := qif_t hf c__13
      refine lv_lload_n hx hb dL_sum_102 rfl (lv_at hl 1 rfl) ?_
      obtain ⟨e1, e2⟩ := qso2 hf
      exact l_lret hC hR hr e1 (by rw [e2]) dL_sum_103 (by omega) (by omega)
    · have hf := qif_f hf c__13
      refine lv_ldc2 (v := 41) hx hb hC.2.2.2.1 (hC.2.2.2.2.1 _ qkL_290) dL_sum_83 ?_
      refine lv_lload_n hx hb dL_sum_86 rfl (lv_at hl 1 rfl) ?_
      refine lv_lmul hx hb dL_sum_87 ?_
      refine lv_aload_n hx hb dL_sum_88 rfl (lv_at hl 0 rfl) ?_
      refine lv_iload_n hx hb dL_sum_89 rfl (lv_at hl 2 rfl) ?_
      obtain ⟨r_14, w_15, hq_16, hf⟩ := qbd2_s hf
      refine l_callSWi hC hR (l_ofHW hJ (mL_programme hJ hst hq_16)) lNo_k trivial lp_C lp_C.symm qkl_750 qkl_751 qkl_18 qkl_752 qhd_L_programme ⟨Nat.le_of_ble_eq_true rfl, Nat.le_of_ble_eq_true rfl⟩ hl.1 rfl (Nat.le_of_ble_eq_true rfl) dL_sum_90 ⟨by show _ ≤ 292; omega, by show _ ≤ 1752; omega⟩ (fun H locs hR hk => ?_)
      refine lv_i2l hx hb dL_sum_93 rfl ?_
      refine lv_ladd hx hb dL_sum_94 ?_
      refine lv_topl (fun h_17 eh_17 => ?_)
      have hf := qnm_t hf eh_17
      refine lv_lstore_n (lv' := [(1, .long h_17), (0, .ref (ad 228)), (3, .int x3)]) hx hb dL_sum_95 rfl hl (by decide) rfl (fun ls hl => ?_)
      obtain ⟨x_18, ex_18⟩ : ∃ y : Int32, y = x3 + 1 := ⟨_, rfl⟩
      have hf := qnm_t hf ex_18
      refine lv_iinc (v := x_18) (lv' := [(3, .int x_18), (1, .long h_17), (0, .ref (ad 228))]) hx hb dL_sum_96 hl (k := 2) rfl (by rw [ex_18]; rfl) (by decide) rfl (fun ls hl => ?_)
      refine lv_goto (tgt := 73) hx hb dL_sum_99 (by decide) ?_
      exact ih _ _ _ _ _ _ _ _ hf hR (lv_sub hl [2, 1, 0] rfl) (by omega) (by omega)
def fL_sum_L33   : Nat → qMem → Int64 → Int32 → Option (Int64 × qMem)
  | 0, _, _, _ => none
  | k + 1, w, x1, x3 =>
    qbd3 (fX5_account w 0) fun (k_4 : Nat) (r_3 : Int32) (w_5 : qMem) =>
    if k_4 = 0 then
    if (7 : Int32) * r_3 ≤ x3 then
      fL_sum_L73 10 w_5 x1 0
    else
      qbd2 (fL_of w_5 (x3 / 7) (x3 - x3 / 7 * 7)) fun (r_19 : Int32) (w_20 : qMem) =>
      qnm (((37 : Int64) * x1) + (Int32.toInt64 r_19)) fun (h_22 : Int64) =>
      qnm (x3 + 1) fun (x_23 : Int32) =>
      fL_sum_L33 k w_20 h_22 x_23
    else none
set_option maxHeartbeats 4000000 in
set_option maxRecDepth 100000 in
theorem mL_sum_L33 {p : Program} {l : Launch} {e : Env} {s : State} {m : MethodId} {args : Array Value} {below : List Frame} {meth : Method} {c : Code} {D : va_G} {G : Nat → ClassId} {ad : Nat → Nat} {w0 : qMem} {rF : Int64} {wF : qMem} (hst : l.stackTraces = false) (hC : lCx p c cL_sum 4 s m args meth RL D G ad (lX (qcells G ad w0) [] [])) (hr : meth.sig.returnType = some .long) : ∀ (k : Nat), ∀ (w : qMem) (x1 : Int64) (x3 : Int32) (cc cs : Nat) (H : Heap) (locs : List Loc) (ls : Array Slot), fL_sum_L33 k w x1 x3 = some (rF, wF) → lR D (lX (qcells G ad w0) [] []) (lX (qcells G ad w) [] []) s H locs → lv_has ls 4 [(0, .ref (ad 228)), (1, .long x1), (3, .int x3)] → cc + 3 * k + 22 ≤ 292 → cs + 18 * k + 132 ≤ 1752 → W p l e (qrm 9 292 1752) s m args below meth c H locs cc cs (MQ below (lQl D (lX (qcells G ad w0) [] []) (lX (qcells G ad wF) [] []) s rF) args s 292 1752 (va_A (lX (qcells G ad w0) [] []) s.heap.size)) (F0 m 33 ls []) := by
  have hx := hC.1
  have hb := hC.2.1
  have hJ := hC.2.2.2.2.2.2.2.1
  intro k
  induction k with
  | zero => intro w x1 x3 cc cs H locs ls hf; exact nomatch (show (none : Option (Int64 × qMem)) = some _ from hf)
  | succ k ih =>
    intro w x1 x3 cc cs H locs ls hf hR hl hcM hsM
    rw [fL_sum_L33] at hf
    refine lv_iload_n hx hb dL_sum_33 rfl (lv_at hl 2 rfl) ?_
    refine lv_bipush (v := 7) hx hb dL_sum_34 (by decide) ?_
    refine lv_aload_n hx hb dL_sum_36 rfl (lv_at hl 0 rfl) ?_
    refine lv_iconst (v := 0) hx hb dL_sum_37 (by decide) ?_
    obtain ⟨k_4, r_3, w_5, hq_2, hf⟩ := qbd3_s hf
    obtain ⟨h_6, hf⟩ := qgd hf
    refine l_callVi hC hR (l_ofXi hJ (mX5_account hJ hst hq_2) h_6) lNo_k trivial lp_C lp_C.symm (l_recv hC hR (lX_mc (k := 228) (by decide)) rfl) qkl_535 qk_536 qk_537 qk_19 qk_538 qhd_X5_account ⟨Nat.le_of_ble_eq_true rfl, Nat.le_of_ble_eq_true rfl⟩ hl.1 rfl (Nat.le_of_ble_eq_true rfl) dL_sum_38 ⟨by show _ ≤ 292; omega, by show _ ≤ 1752; omega⟩ (fun H locs hR hk => ?_)
    refine lv_imul hx hb dL_sum_41 ?_
    refine lv_icmp_ge (tgt := 71) hx hb dL_sum_42 (by decide) (fun c__7 => ?_) (fun c__7 => ?_)
    · have hf := qif_t hf c__7
      refine lv_iconst (v := 0) hx hb dL_sum_71 (by decide) ?_
      refine lv_istore_n (lv' := [(3, .int 0), (0, .ref (ad 228)), (1, .long x1)]) hx hb dL_sum_72 rfl hl (by decide) rfl (fun ls hl => ?_)
      exact mL_sum_L73 hst hC hr 10 _ _ _ _ _ _ _ _ hf hR (lv_sub hl [1, 2, 0] rfl) (by omega) (by omega)
    · have hf := qif_f hf c__7
      refine lv_ldc2 (v := 37) hx hb hC.2.2.2.1 (hC.2.2.2.2.1 _ qkL_288) dL_sum_45 ?_
      refine lv_lload_n hx hb dL_sum_48 rfl (lv_at hl 1 rfl) ?_
      refine lv_lmul hx hb dL_sum_49 ?_
      refine lv_aload_n hx hb dL_sum_50 rfl (lv_at hl 0 rfl) ?_
      refine lv_iload_n hx hb dL_sum_51 rfl (lv_at hl 2 rfl) ?_
      refine lv_bipush (v := 7) hx hb dL_sum_52 (by decide) ?_
      refine lv_idiv hx hb dL_sum_54 (by decide) ?_
      refine lv_iload_n hx hb dL_sum_55 rfl (lv_at hl 2 rfl) ?_
      refine lv_bipush (v := 7) hx hb dL_sum_56 (by decide) ?_
      refine lv_irem hx hb dL_sum_58 (by decide) ?_
      obtain ⟨r_19, w_20, hq_21, hf⟩ := qbd2_s hf
      refine l_callSWi hC hR (l_ofHW hJ (mL_of hJ hst hq_21)) lNo_k trivial lp_C lp_C.symm qkl_647 qkl_648 qkl_18 qkl_649 qhd_L_of ⟨Nat.le_of_ble_eq_true rfl, Nat.le_of_ble_eq_true rfl⟩ hl.1 rfl (Nat.le_of_ble_eq_true rfl) dL_sum_59 ⟨by show _ ≤ 292; omega, by show _ ≤ 1752; omega⟩ (fun H locs hR hk => ?_)
      refine lv_i2l hx hb dL_sum_62 rfl ?_
      refine lv_ladd hx hb dL_sum_63 ?_
      refine lv_topl (fun h_22 eh_22 => ?_)
      have hf := qnm_t hf eh_22
      refine lv_lstore_n (lv' := [(1, .long h_22), (0, .ref (ad 228)), (3, .int x3)]) hx hb dL_sum_64 rfl hl (by decide) rfl (fun ls hl => ?_)
      obtain ⟨x_23, ex_23⟩ : ∃ y : Int32, y = x3 + 1 := ⟨_, rfl⟩
      have hf := qnm_t hf ex_23
      refine lv_iinc (v := x_23) (lv' := [(3, .int x_23), (1, .long h_22), (0, .ref (ad 228))]) hx hb dL_sum_65 hl (k := 2) rfl (by rw [ex_23]; rfl) (by decide) rfl (fun ls hl => ?_)
      refine lv_goto (tgt := 33) hx hb dL_sum_68 (by decide) ?_
      exact ih _ _ _ _ _ _ _ _ hf hR (lv_sub hl [2, 1, 0] rfl) (by omega) (by omega)
def fL_sum_L6   : Nat → qMem → Int64 → Int32 → Option (Int64 × qMem)
  | 0, _, _, _ => none
  | k + 1, w, x1, x3 =>
    if (11 : Int32) ≤ x3 then
      fL_sum_L33 86 w x1 0
    else
      qbd3 (fX5_account w x3) fun (k_26 : Nat) (r_25 : Int32) (w_27 : qMem) =>
      if k_26 = 0 then
      qnm (((31 : Int64) * x1) + (Int32.toInt64 r_25)) fun (h_29 : Int64) =>
      qnm (x3 + 1) fun (x_30 : Int32) =>
      fL_sum_L6 k w_27 h_29 x_30
      else none
set_option maxHeartbeats 4000000 in
set_option maxRecDepth 100000 in
theorem mL_sum_L6 {p : Program} {l : Launch} {e : Env} {s : State} {m : MethodId} {args : Array Value} {below : List Frame} {meth : Method} {c : Code} {D : va_G} {G : Nat → ClassId} {ad : Nat → Nat} {w0 : qMem} {rF : Int64} {wF : qMem} (hst : l.stackTraces = false) (hC : lCx p c cL_sum 4 s m args meth RL D G ad (lX (qcells G ad w0) [] [])) (hr : meth.sig.returnType = some .long) : ∀ (k : Nat), ∀ (w : qMem) (x1 : Int64) (x3 : Int32) (cc cs : Nat) (H : Heap) (locs : List Loc) (ls : Array Slot), fL_sum_L6 k w x1 x3 = some (rF, wF) → lR D (lX (qcells G ad w0) [] []) (lX (qcells G ad w) [] []) s H locs → lv_has ls 4 [(0, .ref (ad 228)), (1, .long x1), (3, .int x3)] → cc + 1 * k + 280 ≤ 292 → cs + 6 * k + 1680 ≤ 1752 → W p l e (qrm 9 292 1752) s m args below meth c H locs cc cs (MQ below (lQl D (lX (qcells G ad w0) [] []) (lX (qcells G ad wF) [] []) s rF) args s 292 1752 (va_A (lX (qcells G ad w0) [] []) s.heap.size)) (F0 m 6 ls []) := by
  have hx := hC.1
  have hb := hC.2.1
  have hJ := hC.2.2.2.2.2.2.2.1
  intro k
  induction k with
  | zero => intro w x1 x3 cc cs H locs ls hf; exact nomatch (show (none : Option (Int64 × qMem)) = some _ from hf)
  | succ k ih =>
    intro w x1 x3 cc cs H locs ls hf hR hl hcM hsM
    rw [fL_sum_L6] at hf
    refine lv_iload_n hx hb dL_sum_6 rfl (lv_at hl 2 rfl) ?_
    refine lv_bipush (v := 11) hx hb dL_sum_7 (by decide) ?_
    refine lv_icmp_ge (tgt := 31) hx hb dL_sum_9 (by decide) (fun c__1 => ?_) (fun c__1 => ?_)
    · have hf := qif_t hf c__1
      refine lv_iconst (v := 0) hx hb dL_sum_31 (by decide) ?_
      refine lv_istore_n (lv' := [(3, .int 0), (0, .ref (ad 228)), (1, .long x1)]) hx hb dL_sum_32 rfl hl (by decide) rfl (fun ls hl => ?_)
      exact mL_sum_L33 hst hC hr 86 _ _ _ _ _ _ _ _ hf hR (lv_sub hl [1, 2, 0] rfl) (by omega) (by omega)
    · have hf := qif_f hf c__1
      refine lv_ldc2 (v := 31) hx hb hC.2.2.2.1 (hC.2.2.2.2.1 _ qkL_286) dL_sum_12 ?_
      refine lv_lload_n hx hb dL_sum_15 rfl (lv_at hl 1 rfl) ?_
      refine lv_lmul hx hb dL_sum_16 ?_
      refine lv_aload_n hx hb dL_sum_17 rfl (lv_at hl 0 rfl) ?_
      refine lv_iload_n hx hb dL_sum_18 rfl (lv_at hl 2 rfl) ?_
      obtain ⟨k_26, r_25, w_27, hq_24, hf⟩ := qbd3_s hf
      obtain ⟨h_28, hf⟩ := qgd hf
      refine l_callVi hC hR (l_ofXi hJ (mX5_account hJ hst hq_24) h_28) lNo_k trivial lp_C lp_C.symm (l_recv hC hR (lX_mc (k := 228) (by decide)) rfl) qkl_535 qk_536 qk_537 qk_19 qk_538 qhd_X5_account ⟨Nat.le_of_ble_eq_true rfl, Nat.le_of_ble_eq_true rfl⟩ hl.1 rfl (Nat.le_of_ble_eq_true rfl) dL_sum_19 ⟨by show _ ≤ 292; omega, by show _ ≤ 1752; omega⟩ (fun H locs hR hk => ?_)
      refine lv_i2l hx hb dL_sum_22 rfl ?_
      refine lv_ladd hx hb dL_sum_23 ?_
      refine lv_topl (fun h_29 eh_29 => ?_)
      have hf := qnm_t hf eh_29
      refine lv_lstore_n (lv' := [(1, .long h_29), (0, .ref (ad 228)), (3, .int x3)]) hx hb dL_sum_24 rfl hl (by decide) rfl (fun ls hl => ?_)
      obtain ⟨x_30, ex_30⟩ : ∃ y : Int32, y = x3 + 1 := ⟨_, rfl⟩
      have hf := qnm_t hf ex_30
      refine lv_iinc (v := x_30) (lv' := [(3, .int x_30), (1, .long h_29), (0, .ref (ad 228))]) hx hb dL_sum_25 hl (k := 2) rfl (by rw [ex_30]; rfl) (by decide) rfl (fun ls hl => ?_)
      refine lv_goto (tgt := 6) hx hb dL_sum_28 (by decide) ?_
      exact ih _ _ _ _ _ _ _ _ hf hR (lv_sub hl [2, 1, 0] rfl) (by omega) (by omega)
def fL_sum (w0 : qMem) : Option (Int64 × qMem) :=
  fL_sum_L6 12 w0 7 0
theorem qhd_L_sum : yL_sum.cls ≠ "java/lang/invoke/MethodHandle" ∧ yL_sum.cls ≠ "java/lang/invoke/VarHandle" ∧ (parseMethodDescriptor yL_sum.desc).map (fun d => d.parameters.length) = some 1 := ⟨by decide +kernel, by decide +kernel, by decide +kernel⟩
set_option maxHeartbeats 4000000 in
set_option maxRecDepth 100000 in
theorem mL_sum {l : Launch} {D : va_G} {G : Nat → ClassId} {ad : Nat → Nat} {w0 : qMem} {rF : Int64} {wF : qMem} (hJ : qInj ad) (hst : l.stackTraces = false) (hf : fL_sum w0 = some (rF, wF)) : lCM l D G ad yL_sum (Cond.code yL_sum cL_sum 4 (some .long)) 9 292 1752 [.ref (ad 228)] (lX (qcells G ad w0) [] []) (fun _ _ _ => True) (fun st => lQl D (lX (qcells G ad w0) [] []) (lX (qcells G ad wF) [] []) st rF) := by
  refine l_start RL rfl (by decide +kernel) hJ (fun a b h => by simp only [lQi, lQl, lQr, h]) (Nat.le_of_ble_eq_true rfl) ?_
  intro p e s m args below meth c ls hC hr _ hE hR hl
  have hx := hC.1
  have hb := hC.2.1
  have hl : lv_has ls 4 [(0, .ref (ad 228))] := hl
  unfold fL_sum at hf
  refine lv_ldc2 (v := 7) hx hb hC.2.2.2.1 (hC.2.2.2.2.1 _ qkL_284) dL_sum_0 ?_
  refine lv_lstore_n (lv' := [(1, .long 7), (0, .ref (ad 228))]) hx hb dL_sum_3 rfl hl (by decide) rfl (fun ls hl => ?_)
  refine lv_iconst (v := 0) hx hb dL_sum_4 (by decide) ?_
  refine lv_istore_n (lv' := [(3, .int 0), (1, .long 7), (0, .ref (ad 228))]) hx hb dL_sum_5 rfl hl (by decide) rfl (fun ls hl => ?_)
  exact mL_sum_L6 hst hC hr 12 _ _ _ _ _ _ _ _ hf hR (lv_sub hl [2, 1, 0] rfl) (by omega) (by omega)
def fL_spells_L57 (a2 : Int32) (ts : List Int32)  (w : qMem) (x1 : Int32) (x3 : Int32) : Option (Int32 × qMem) :=
  if x3 = 0 then
    some (0, w)
  else
    qbd2 (fL_character w x1) fun (r_4 : Int32) (w_5 : qMem) =>
    if r_4 = (-11) then
      some (1, w_5)
    else
      some (0, w_5)
set_option maxHeartbeats 4000000 in
set_option maxRecDepth 100000 in
theorem mL_spells_L57 {p : Program} {l : Launch} {e : Env} {s : State} {m : MethodId} {args : Array Value} {below : List Frame} {meth : Method} {c : Code} {D : va_G} {G : Nat → ClassId} {ad : Nat → Nat} {qs : Nat} {a2 : Int32} {ts : List Int32} {w0 : qMem} {rF : Int32} {wF : qMem} (hst : l.stackTraces = false) (hC : lCx p c cL_spells 5 s m args meth RL D G ad (lX (qcells G ad w0) [] [])) (hr : meth.sig.returnType = some .boolean) (hE : (qSt qs ts) (lA ad (lX (qcells G ad w0) [] []) s.heap.size) s s.heap) : ∀ (w : qMem) (x1 : Int32) (x3 : Int32) (cc cs : Nat) (H : Heap) (locs : List Loc) (ls : Array Slot), fL_spells_L57 a2 ts w x1 x3 = some (rF, wF) → lR D (lX (qcells G ad w0) [] []) (lX (qcells G ad w) [] []) s H locs → lv_has ls 5 [(0, .ref (ad 228)), (1, .int x1), (3, .int x3)] → cc + 1 ≤ 21 → cs + 6 ≤ 126 → W p l e (qrm 8 21 126) s m args below meth c H locs cc cs (MQ below (lQi D (lX (qcells G ad w0) [] []) (lX (qcells G ad wF) [] []) s rF) args s 21 126 (va_A (lX (qcells G ad w0) [] []) s.heap.size)) (F0 m 57 ls []) := by
  have hx := hC.1
  have hb := hC.2.1
  have hJ := hC.2.2.2.2.2.2.2.1
  intro w x1 x3 cc cs H locs ls hf hR hl hcM hsM
  unfold fL_spells_L57 at hf
  refine lv_iload_n hx hb dL_spells_57 rfl (lv_at hl 2 rfl) ?_
  refine lv_if_eq (tgt := 75) hx hb dL_spells_58 (by decide) (fun c__3 => ?_) (fun c__3 => ?_)
  · have hf := qif_t hf c__3
    refine lv_iconst (v := 0) hx hb dL_spells_75 (by decide) ?_
    obtain ⟨e1, e2⟩ := qso2 hf
    exact l_iret hC hR hr (by decide) e1 (by rw [e2]) dL_spells_76 (by omega) (by omega)
  · have hf := qif_f hf c__3
    refine lv_aload_n hx hb dL_spells_61 rfl (lv_at hl 0 rfl) ?_
    refine lv_iload_n hx hb dL_spells_62 rfl (lv_at hl 1 rfl) ?_
    obtain ⟨r_4, w_5, hq_6, hf⟩ := qbd2_s hf
    refine l_callSWi hC hR (l_ofHW hJ (mL_character hJ hst hq_6)) lNo_k trivial lp_C lp_C.symm qkl_1173 qkl_1174 qkl_18 qkl_1175 qhd_L_character ⟨Nat.le_of_ble_eq_true rfl, Nat.le_of_ble_eq_true rfl⟩ hl.1 rfl (Nat.le_of_ble_eq_true rfl) dL_spells_63 ⟨by show _ ≤ 21; omega, by show _ ≤ 126; omega⟩ (fun H locs hR hk => ?_)
    refine lv_bipush (v := (-11)) hx hb dL_spells_66 (by decide) ?_
    refine lv_icmp_ne (tgt := 75) hx hb dL_spells_68 (by decide) (fun c__7 => ?_) (fun c__7 => ?_)
    · have hf := qif_f hf c__7
      refine lv_iconst (v := 0) hx hb dL_spells_75 (by decide) ?_
      obtain ⟨e1, e2⟩ := qso2 hf
      exact l_iret hC hR hr (by decide) e1 (by rw [e2]) dL_spells_76 (by omega) (by omega)
    · have hf := qif_t hf c__7
      refine lv_iconst (v := 1) hx hb dL_spells_71 (by decide) ?_
      refine lv_goto (tgt := 76) hx hb dL_spells_72 (by decide) ?_
      obtain ⟨e1, e2⟩ := qso2 hf
      exact l_iret hC hR hr (by decide) e1 (by rw [e2]) dL_spells_76 (by omega) (by omega)
def fL_spells_L17 (a2 : Int32) (ts : List Int32)  : Nat → qMem → Int32 → Int32 → Int32 → Option (Int32 × qMem)
  | 0, _, _, _, _ => none
  | k + 1, w, x1, x3, x4 =>
    if Int32.ofNat ts.length ≤ x4 then
      fL_spells_L57 a2 ts w x1 x3
    else
      if x3 = 0 then
        fL_spells_L57 a2 ts w x1 x3
      else
        qbd2 (fL_character w x4) fun (r_9 : Int32) (w_10 : qMem) =>
        if qin x4 ts.length = true then
        if r_9 = ts.getD (x4).toNatClampNeg 0 then
          qnm (x4 + 1) fun (x_15 : Int32) =>
          fL_spells_L17 a2 ts k w_10 x1 1 x_15
        else
          qnm (x4 + 1) fun (x_14 : Int32) =>
          fL_spells_L17 a2 ts k w_10 x1 0 x_14
        else none
set_option maxHeartbeats 4000000 in
set_option maxRecDepth 100000 in
theorem mL_spells_L17 {p : Program} {l : Launch} {e : Env} {s : State} {m : MethodId} {args : Array Value} {below : List Frame} {meth : Method} {c : Code} {D : va_G} {G : Nat → ClassId} {ad : Nat → Nat} {qs : Nat} {a2 : Int32} {ts : List Int32} {w0 : qMem} {rF : Int32} {wF : qMem} (hst : l.stackTraces = false) (hC : lCx p c cL_spells 5 s m args meth RL D G ad (lX (qcells G ad w0) [] [])) (hr : meth.sig.returnType = some .boolean) (hE : (qSt qs ts) (lA ad (lX (qcells G ad w0) [] []) s.heap.size) s s.heap) : ∀ (k : Nat), ∀ (w : qMem) (x1 : Int32) (x3 : Int32) (x4 : Int32) (cc cs : Nat) (H : Heap) (locs : List Loc) (ls : Array Slot), fL_spells_L17 a2 ts k w x1 x3 x4 = some (rF, wF) → lR D (lX (qcells G ad w0) [] []) (lX (qcells G ad w) [] []) s H locs → lv_has ls 5 [(0, .ref (ad 228)), (1, .int x1), (2, .ref qs), (3, .int x3), (4, .int x4)] → cc + 1 * k + 1 ≤ 21 → cs + 6 * k + 6 ≤ 126 → W p l e (qrm 8 21 126) s m args below meth c H locs cc cs (MQ below (lQi D (lX (qcells G ad w0) [] []) (lX (qcells G ad wF) [] []) s rF) args s 21 126 (va_A (lX (qcells G ad w0) [] []) s.heap.size)) (F0 m 17 ls []) := by
  have hx := hC.1
  have hb := hC.2.1
  have hJ := hC.2.2.2.2.2.2.2.1
  intro k
  induction k with
  | zero => intro w x1 x3 x4 cc cs H locs ls hf; exact nomatch (show (none : Option (Int32 × qMem)) = some _ from hf)
  | succ k ih =>
    intro w x1 x3 x4 cc cs H locs ls hf hR hl hcM hsM
    rw [fL_spells_L17] at hf
    refine lv_iload hx hb dL_spells_17 (lv_at hl 4 rfl) ?_
    refine lv_aload_n hx hb dL_spells_19 rfl (lv_at hl 2 rfl) ?_
    refine l_callVi hC hR (l_ofYi qSt_k hJ (mJ0_length (t := ts) hJ)) qSt_k (l_now qSt_k hR hE) lp_C lp_C.symm (qSt_rc (l_now qSt_k hR hE)) qkj_1172 qkj_1039 qkj_1040 qkS_init qkj_1041 qhd_J0_length_8abf5 ⟨Nat.le_of_ble_eq_true rfl, Nat.le_of_ble_eq_true rfl⟩ hl.1 rfl (Nat.le_of_ble_eq_true rfl) dL_spells_20 ⟨by show _ ≤ 21; omega, by show _ ≤ 126; omega⟩ (fun H locs hR hk => ?_)
    refine lv_icmp_ge (tgt := 57) hx hb dL_spells_23 (by decide) (fun c__2 => ?_) (fun c__2 => ?_)
    · have hf := qif_t hf c__2
      exact mL_spells_L57 hst hC hr hE _ _ _ _ _ _ _ _ hf hR (lv_sub hl [0, 1, 3] rfl) (by omega) (by omega)
    · have hf := qif_f hf c__2
      refine lv_iload_n hx hb dL_spells_26 rfl (lv_at hl 3 rfl) ?_
      refine lv_if_eq (tgt := 57) hx hb dL_spells_27 (by decide) (fun c__8 => ?_) (fun c__8 => ?_)
      · have hf := qif_t hf c__8
        exact mL_spells_L57 hst hC hr hE _ _ _ _ _ _ _ _ hf hR (lv_sub hl [0, 1, 3] rfl) (by omega) (by omega)
      · have hf := qif_f hf c__8
        refine lv_aload_n hx hb dL_spells_30 rfl (lv_at hl 0 rfl) ?_
        refine lv_iload hx hb dL_spells_31 (lv_at hl 4 rfl) ?_
        obtain ⟨r_9, w_10, hq_11, hf⟩ := qbd2_s hf
        refine l_callSWi hC hR (l_ofHW hJ (mL_character hJ hst hq_11)) lNo_k trivial lp_C lp_C.symm qkl_1173 qkl_1174 qkl_18 qkl_1175 qhd_L_character ⟨Nat.le_of_ble_eq_true rfl, Nat.le_of_ble_eq_true rfl⟩ hl.1 rfl (Nat.le_of_ble_eq_true rfl) dL_spells_33 ⟨by show _ ≤ 21; omega, by show _ ≤ 126; omega⟩ (fun H locs hR hk => ?_)
        refine lv_aload_n hx hb dL_spells_36 rfl (lv_at hl 2 rfl) ?_
        refine lv_iload hx hb dL_spells_37 (lv_at hl 4 rfl) ?_
        obtain ⟨g_12, hf⟩ := qgd hf
        refine l_callVi hC hR (l_ofYi qSt_k hJ (mJ0_charAt (t := ts) hJ g_12)) qSt_k (l_now qSt_k hR hE) lp_C lp_C.symm (qSt_rc (l_now qSt_k hR hE)) qkj_902 qkj_903 qkj_904 qkS_init qkj_905 qhd_J0_charAt_5068e ⟨Nat.le_of_ble_eq_true rfl, Nat.le_of_ble_eq_true rfl⟩ hl.1 rfl (Nat.le_of_ble_eq_true rfl) dL_spells_39 ⟨by show _ ≤ 21; omega, by show _ ≤ 126; omega⟩ (fun H locs hR hk => ?_)
        refine lv_icmp_ne (tgt := 49) hx hb dL_spells_42 (by decide) (fun c__13 => ?_) (fun c__13 => ?_)
        · have hf := qif_f hf c__13
          refine lv_iconst (v := 0) hx hb dL_spells_49 (by decide) ?_
          refine lv_istore_n (lv' := [(3, .int 0), (0, .ref (ad 228)), (1, .int x1), (2, .ref qs), (4, .int x4)]) hx hb dL_spells_50 rfl hl (by decide) rfl (fun ls hl => ?_)
          obtain ⟨x_14, ex_14⟩ : ∃ y : Int32, y = x4 + 1 := ⟨_, rfl⟩
          have hf := qnm_t hf ex_14
          refine lv_iinc (v := x_14) (lv' := [(4, .int x_14), (3, .int 0), (0, .ref (ad 228)), (1, .int x1), (2, .ref qs)]) hx hb dL_spells_51 hl (k := 4) rfl (by rw [ex_14]; rfl) (by decide) rfl (fun ls hl => ?_)
          refine lv_goto (tgt := 17) hx hb dL_spells_54 (by decide) ?_
          exact ih _ _ _ _ _ _ _ _ _ hf hR (lv_sub hl [2, 3, 4, 1, 0] rfl) (by omega) (by omega)
        · have hf := qif_t hf c__13
          refine lv_iconst (v := 1) hx hb dL_spells_45 (by decide) ?_
          refine lv_goto (tgt := 50) hx hb dL_spells_46 (by decide) ?_
          refine lv_istore_n (lv' := [(3, .int 1), (0, .ref (ad 228)), (1, .int x1), (2, .ref qs), (4, .int x4)]) hx hb dL_spells_50 rfl hl (by decide) rfl (fun ls hl => ?_)
          obtain ⟨x_15, ex_15⟩ : ∃ y : Int32, y = x4 + 1 := ⟨_, rfl⟩
          have hf := qnm_t hf ex_15
          refine lv_iinc (v := x_15) (lv' := [(4, .int x_15), (3, .int 1), (0, .ref (ad 228)), (1, .int x1), (2, .ref qs)]) hx hb dL_spells_51 hl (k := 4) rfl (by rw [ex_15]; rfl) (by decide) rfl (fun ls hl => ?_)
          refine lv_goto (tgt := 17) hx hb dL_spells_54 (by decide) ?_
          exact ih _ _ _ _ _ _ _ _ _ hf hR (lv_sub hl [2, 3, 4, 1, 0] rfl) (by omega) (by omega)
def fL_spells (w0 : qMem) (a2 : Int32) (ts : List Int32) : Option (Int32 × qMem) :=
  if a2 = Int32.ofNat ts.length then
    fL_spells_L17 a2 ts 20 w0 a2 1 0
  else
    fL_spells_L17 a2 ts 20 w0 a2 0 0
theorem qhd_L_spells : yL_spells.cls ≠ "java/lang/invoke/MethodHandle" ∧ yL_spells.cls ≠ "java/lang/invoke/VarHandle" ∧ (parseMethodDescriptor yL_spells.desc).map (fun d => d.parameters.length) = some 3 := ⟨by decide +kernel, by decide +kernel, by decide +kernel⟩
set_option maxHeartbeats 4000000 in
set_option maxRecDepth 100000 in
theorem mL_spells {l : Launch} {D : va_G} {G : Nat → ClassId} {ad : Nat → Nat} {qs : Nat} {w0 : qMem} {a2 : Int32} {ts : List Int32} {rF : Int32} {wF : qMem} (hJ : qInj ad) (hst : l.stackTraces = false) (hf : fL_spells w0 a2 ts = some (rF, wF)) : lCM l D G ad yL_spells (Cond.code yL_spells cL_spells 5 (some .boolean)) 8 21 126 [.ref (ad 228), .int a2, .ref qs] (lX (qcells G ad w0) [] []) (qSt qs ts) (fun st => lQi D (lX (qcells G ad w0) [] []) (lX (qcells G ad wF) [] []) st rF) := by
  refine l_start RL rfl (by decide +kernel) hJ (fun a b h => by simp only [lQi, lQl, lQr, h]) (Nat.le_of_ble_eq_true rfl) ?_
  intro p e s m args below meth c ls hC hr _ hE hR hl
  have hx := hC.1
  have hb := hC.2.1
  have hl : lv_has ls 5 [(0, .ref (ad 228)), (1, .int a2), (2, .ref qs)] := hl
  unfold fL_spells at hf
  refine lv_iload_n hx hb dL_spells_0 rfl (lv_at hl 1 rfl) ?_
  refine lv_aload_n hx hb dL_spells_1 rfl (lv_at hl 2 rfl) ?_
  refine l_callVi hC hR (l_ofYi qSt_k hJ (mJ0_length (t := ts) hJ)) qSt_k (l_now qSt_k hR hE) lp_C lp_C.symm (qSt_rc (l_now qSt_k hR hE)) qkj_1172 qkj_1039 qkj_1040 qkS_init qkj_1041 qhd_J0_length_8abf5 ⟨Nat.le_of_ble_eq_true rfl, Nat.le_of_ble_eq_true rfl⟩ hl.1 rfl (Nat.le_of_ble_eq_true rfl) dL_spells_2 ⟨by show _ ≤ 21; omega, by show _ ≤ 126; omega⟩ (fun H locs hR hk => ?_)
  refine lv_icmp_ne (tgt := 12) hx hb dL_spells_5 (by decide) (fun c__1 => ?_) (fun c__1 => ?_)
  · have hf := qif_f hf c__1
    refine lv_iconst (v := 0) hx hb dL_spells_12 (by decide) ?_
    refine lv_istore_n (lv' := [(3, .int 0), (0, .ref (ad 228)), (1, .int a2), (2, .ref qs)]) hx hb dL_spells_13 rfl hl (by decide) rfl (fun ls hl => ?_)
    refine lv_iconst (v := 0) hx hb dL_spells_14 (by decide) ?_
    refine lv_istore (lv' := [(4, .int 0), (3, .int 0), (0, .ref (ad 228)), (1, .int a2), (2, .ref qs)]) hx hb dL_spells_15 hl (by decide) rfl (fun ls hl => ?_)
    exact mL_spells_L17 hst hC hr hE 20 _ _ _ _ _ _ _ _ _ hf hR (lv_sub hl [2, 3, 4, 1, 0] rfl) (by omega) (by omega)
  · have hf := qif_t hf c__1
    refine lv_iconst (v := 1) hx hb dL_spells_8 (by decide) ?_
    refine lv_goto (tgt := 13) hx hb dL_spells_9 (by decide) ?_
    refine lv_istore_n (lv' := [(3, .int 1), (0, .ref (ad 228)), (1, .int a2), (2, .ref qs)]) hx hb dL_spells_13 rfl hl (by decide) rfl (fun ls hl => ?_)
    refine lv_iconst (v := 0) hx hb dL_spells_14 (by decide) ?_
    refine lv_istore (lv' := [(4, .int 0), (3, .int 1), (0, .ref (ad 228)), (1, .int a2), (2, .ref qs)]) hx hb dL_spells_15 hl (by decide) rfl (fun ls hl => ?_)
    exact mL_spells_L17 hst hC hr hE 20 _ _ _ _ _ _ _ _ _ hf hR (lv_sub hl [2, 3, 4, 1, 0] rfl) (by omega) (by omega)
def fL_run_L2 (ts : List Int32)  : Nat → qMem → Int32 → Option (Int32 × qMem)
  | 0, _, _ => none
  | k + 1, w, x2 =>
    if Int32.ofNat ts.length ≤ x2 then
      qbd2 (fL_runs w) fun (r_2 : Int32) (w_3 : qMem) =>
      some (r_2, w_3)
    else
      if qin x2 ts.length = true then
      qbd2 (fL_append w (ts.getD (x2).toNatClampNeg 0)) fun (r_6 : Int32) (w_7 : qMem) =>
      if r_6 = x2 + 1 then
        qnm (x2 + 1) fun (x_10 : Int32) =>
        fL_run_L2 ts k w_7 x_10
      else
        some ((-9), w_7)
      else none
set_option maxHeartbeats 4000000 in
set_option maxRecDepth 100000 in
theorem mL_run_L2 {p : Program} {l : Launch} {e : Env} {s : State} {m : MethodId} {args : Array Value} {below : List Frame} {meth : Method} {c : Code} {D : va_G} {G : Nat → ClassId} {ad : Nat → Nat} {qs : Nat} {ts : List Int32} {w0 : qMem} {rF : Int32} {wF : qMem} (hst : l.stackTraces = false) (hC : lCx p c cL_run 3 s m args meth RL D G ad (lX (qcells G ad w0) [] [])) (hr : meth.sig.returnType = some .int) (hE : (qSt qs ts) (lA ad (lX (qcells G ad w0) [] []) s.heap.size) s s.heap) : ∀ (k : Nat), ∀ (w : qMem) (x2 : Int32) (cc cs : Nat) (H : Heap) (locs : List Loc) (ls : Array Slot), fL_run_L2 ts k w x2 = some (rF, wF) → lR D (lX (qcells G ad w0) [] []) (lX (qcells G ad w) [] []) s H locs → lv_has ls 3 [(0, .ref (ad 228)), (1, .ref qs), (2, .int x2)] → cc + 1 * k + 1 ≤ 41 → cs + 6 * k + 6 ≤ 246 → W p l e (qrm 11 41 246) s m args below meth c H locs cc cs (MQ below (lQi D (lX (qcells G ad w0) [] []) (lX (qcells G ad wF) [] []) s rF) args s 41 246 (va_A (lX (qcells G ad w0) [] []) s.heap.size)) (F0 m 2 ls []) := by
  have hx := hC.1
  have hb := hC.2.1
  have hJ := hC.2.2.2.2.2.2.2.1
  intro k
  induction k with
  | zero => intro w x2 cc cs H locs ls hf; exact nomatch (show (none : Option (Int32 × qMem)) = some _ from hf)
  | succ k ih =>
    intro w x2 cc cs H locs ls hf hR hl hcM hsM
    rw [fL_run_L2] at hf
    refine lv_iload_n hx hb dL_run_2 rfl (lv_at hl 2 rfl) ?_
    refine lv_aload_n hx hb dL_run_3 rfl (lv_at hl 1 rfl) ?_
    refine l_callVi hC hR (l_ofYi qSt_k hJ (mJ0_length (t := ts) hJ)) qSt_k (l_now qSt_k hR hE) lp_C lp_C.symm (qSt_rc (l_now qSt_k hR hE)) qkj_1172 qkj_1039 qkj_1040 qkS_init qkj_1041 qhd_J0_length_8abf5 ⟨Nat.le_of_ble_eq_true rfl, Nat.le_of_ble_eq_true rfl⟩ hl.1 rfl (Nat.le_of_ble_eq_true rfl) dL_run_4 ⟨by show _ ≤ 41; omega, by show _ ≤ 246; omega⟩ (fun H locs hR hk => ?_)
    refine lv_icmp_ge (tgt := 34) hx hb dL_run_7 (by decide) (fun c__1 => ?_) (fun c__1 => ?_)
    · have hf := qif_t hf c__1
      refine lv_aload_n hx hb dL_run_34 rfl (lv_at hl 0 rfl) ?_
      obtain ⟨r_2, w_3, hq_4, hf⟩ := qbd2_s hf
      refine l_callSWi hC hR (l_ofHW hJ (mL_runs hJ hst hq_4)) lNo_k trivial lp_C lp_C.symm qkl_1259 qkl_1260 qkl_18 qkl_1261 qhd_L_runs ⟨Nat.le_of_ble_eq_true rfl, Nat.le_of_ble_eq_true rfl⟩ hl.1 rfl (Nat.le_of_ble_eq_true rfl) dL_run_35 ⟨by show _ ≤ 41; omega, by show _ ≤ 246; omega⟩ (fun H locs hR hk => ?_)
      obtain ⟨e1, e2⟩ := qso2 hf
      exact l_iret hC hR hr rfl e1 (by rw [e2]) dL_run_38 (by omega) (by omega)
    · have hf := qif_f hf c__1
      refine lv_aload_n hx hb dL_run_10 rfl (lv_at hl 0 rfl) ?_
      refine lv_aload_n hx hb dL_run_11 rfl (lv_at hl 1 rfl) ?_
      refine lv_iload_n hx hb dL_run_12 rfl (lv_at hl 2 rfl) ?_
      obtain ⟨g_5, hf⟩ := qgd hf
      refine l_callVi hC hR (l_ofYi qSt_k hJ (mJ0_charAt (t := ts) hJ g_5)) qSt_k (l_now qSt_k hR hE) lp_C lp_C.symm (qSt_rc (l_now qSt_k hR hE)) qkj_902 qkj_903 qkj_904 qkS_init qkj_905 qhd_J0_charAt_5068e ⟨Nat.le_of_ble_eq_true rfl, Nat.le_of_ble_eq_true rfl⟩ hl.1 rfl (Nat.le_of_ble_eq_true rfl) dL_run_13 ⟨by show _ ≤ 41; omega, by show _ ≤ 246; omega⟩ (fun H locs hR hk => ?_)
      obtain ⟨r_6, w_7, hq_8, hf⟩ := qbd2_s hf
      refine l_callSWi hC hR (l_ofHW hJ (mL_append hJ hst hq_8)) lNo_k trivial lp_C lp_C.symm qkl_1230 qkl_1231 qkl_18 qkl_1232 qhd_L_append ⟨Nat.le_of_ble_eq_true rfl, Nat.le_of_ble_eq_true rfl⟩ hl.1 rfl (Nat.le_of_ble_eq_true rfl) dL_run_16 ⟨by show _ ≤ 41; omega, by show _ ≤ 246; omega⟩ (fun H locs hR hk => ?_)
      refine lv_iload_n hx hb dL_run_19 rfl (lv_at hl 2 rfl) ?_
      refine lv_iconst (v := 1) hx hb dL_run_20 (by decide) ?_
      refine lv_iadd hx hb dL_run_21 ?_
      refine lv_icmp_eq (tgt := 28) hx hb dL_run_22 (by decide) (fun c__9 => ?_) (fun c__9 => ?_)
      · have hf := qif_t hf c__9
        obtain ⟨x_10, ex_10⟩ : ∃ y : Int32, y = x2 + 1 := ⟨_, rfl⟩
        have hf := qnm_t hf ex_10
        refine lv_iinc (v := x_10) (lv' := [(2, .int x_10), (0, .ref (ad 228)), (1, .ref qs)]) hx hb dL_run_28 hl (k := 2) rfl (by rw [ex_10]; rfl) (by decide) rfl (fun ls hl => ?_)
        refine lv_goto (tgt := 2) hx hb dL_run_31 (by decide) ?_
        exact ih _ _ _ _ _ _ _ hf hR (lv_sub hl [1, 2, 0] rfl) (by omega) (by omega)
      · have hf := qif_f hf c__9
        refine lv_bipush (v := (-9)) hx hb dL_run_25 (by decide) ?_
        obtain ⟨e1, e2⟩ := qso2 hf
        exact l_iret hC hR hr rfl e1 (by rw [e2]) dL_run_27 (by omega) (by omega)
def fL_run (w0 : qMem) (ts : List Int32) : Option (Int32 × qMem) :=
  fL_run_L2 ts 40 w0 0
theorem qhd_L_run : yL_run.cls ≠ "java/lang/invoke/MethodHandle" ∧ yL_run.cls ≠ "java/lang/invoke/VarHandle" ∧ (parseMethodDescriptor yL_run.desc).map (fun d => d.parameters.length) = some 2 := ⟨by decide +kernel, by decide +kernel, by decide +kernel⟩
set_option maxHeartbeats 4000000 in
set_option maxRecDepth 100000 in
theorem mL_run {l : Launch} {D : va_G} {G : Nat → ClassId} {ad : Nat → Nat} {qs : Nat} {w0 : qMem} {ts : List Int32} {rF : Int32} {wF : qMem} (hJ : qInj ad) (hst : l.stackTraces = false) (hf : fL_run w0 ts = some (rF, wF)) : lCM l D G ad yL_run (Cond.code yL_run cL_run 3 (some .int)) 11 41 246 [.ref (ad 228), .ref qs] (lX (qcells G ad w0) [] []) (qSt qs ts) (fun st => lQi D (lX (qcells G ad w0) [] []) (lX (qcells G ad wF) [] []) st rF) := by
  refine l_start RL rfl (by decide +kernel) hJ (fun a b h => by simp only [lQi, lQl, lQr, h]) (Nat.le_of_ble_eq_true rfl) ?_
  intro p e s m args below meth c ls hC hr _ hE hR hl
  have hx := hC.1
  have hb := hC.2.1
  have hl : lv_has ls 3 [(0, .ref (ad 228)), (1, .ref qs)] := hl
  unfold fL_run at hf
  refine lv_iconst (v := 0) hx hb dL_run_0 (by decide) ?_
  refine lv_istore_n (lv' := [(2, .int 0), (0, .ref (ad 228)), (1, .ref qs)]) hx hb dL_run_1 rfl hl (by decide) rfl (fun ls hl => ?_)
  exact mL_run_L2 hst hC hr hE 40 _ _ _ _ _ _ _ hf hR (lv_sub hl [1, 2, 0] rfl) (by omega) (by omega)
