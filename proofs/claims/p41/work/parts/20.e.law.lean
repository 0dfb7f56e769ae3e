theorem qSt_asc {q : Nat} {t : List Int32} {A : Nat → Prop} {U : State} {H : Heap} (h : qSt q t A U H) : qasc t = true := by
  obtain ⟨_, _, v, _, hB⟩ := h
  exact hB.1
def fL_lines_L246   : Nat → qMem → Nat → (Nat → Nat → Int32) → List Int32 → Int32 → Option (Int32 × qMem)
  | 0, _, _, _, _, _ => none
  | k + 1, w, n, M, t_x2, x3 =>
    qbd3 (fX5_account w 10) fun (k_10 : Nat) (r_9 : Int32) (w_11 : qMem) =>
    if k_10 = 0 then
    if r_9 ≤ x3 then
      qbd2 (fX5_programmeLine w_11) fun (r_15 : Int32) (w_16 : qMem) =>
      qbd2 (fL_spells w_16 r_15 t_x2) fun (r_18 : Int32) (w_19 : qMem) =>
      if r_18 = 0 then
        some (0, w_19)
      else
        qbd2 (fL_line w_19 (Int32.ofNat n)) fun (r_21 : Int32) (w_22 : qMem) =>
        if r_21 = (-11) then
          qbd3 (fX5_account w_22 10) fun (k_27 : Nat) (r_26 : Int32) (w_28 : qMem) =>
          if k_27 = 0 then
          qbd2 (fL_programme w_28 r_26) fun (r_30 : Int32) (w_31 : qMem) =>
          if r_30 = (-13) then
            some (1, w_31)
          else
            some (0, w_31)
          else none
        else
          some (0, w_22)
    else
      if ([] : List Int32).length + t_x2.length ≤ 60 then
      qnm (([] : List Int32) ++ t_x2) fun (t_41 : List Int32) =>
      qbd2 (fL_programme w_11 x3) fun (r_42 : Int32) (w_43 : qMem) =>
      if qin r_42 100 = true then
      if t_41.length + 2 ≤ 60 then
      qnm ((r_42).toNatClampNeg) fun (k_47 : Nat) =>
      qnm (t_41 ++ ldig k_47) fun (t_51 : List Int32) =>
      qnm (x3 + 1) fun (x_54 : Int32) =>
      fL_lines_L246 k w_43 n M t_51 x_54
      else none
      else none
      else none
    else none
set_option maxHeartbeats 4000000 in
set_option maxRecDepth 100000 in
theorem mL_lines_L246 {p : Program} {l : Launch} {e : Env} {s : State} {m : MethodId} {args : Array Value} {below : List Frame} {meth : Method} {c : Code} {D : va_G} {G : Nat → ClassId} {ad : Nat → Nat} {o1 : Nat} {o2 : Nat} {w0 : qMem} {rF : Int32} {wF : qMem} (hst : l.stackTraces = false) (hC : lCx p c cL_lines 6 s m args meth RL D G ad (lX (qcells G ad w0) [] [])) (hr : meth.sig.returnType = some .boolean) (hE : (lDg o1 o2) (lA ad (lX (qcells G ad w0) [] []) s.heap.size) s s.heap) : ∀ (k : Nat), ∀ (w : qMem) (n : Nat) (M : Nat → Nat → Int32) (t_x2 : List Int32) (x3 : Int32) (gq : Nat) (gr : Nat → Nat) (q_x2 : Nat) (cc cs : Nat) (H : Heap) (locs : List Loc) (ls : Array Slot), fL_lines_L246 k w n M t_x2 x3 = some (rF, wF) → lR D (lX (qcells G ad w0) [] []) (lX (qcells G ad w) [] (lgr G gq gr n M)) s H locs → lv_has ls 6 [(0, .ref (ad 228)), (1, .ref gq), (2, .ref q_x2), (3, .int x3)] → qSt q_x2 t_x2 (lA ad (lX (qcells G ad w) [] (lgr G gq gr n M)) H.size) s H → cc + 8 * k + 25 ≤ 1380 → cs + 356 * k + 150 ≤ 55474 → W p l e (qrm 10 1380 55474) s m args below meth c H locs cc cs (MQ below (lQi D (lX (qcells G ad w0) [] []) (lX (qcells G ad wF) [] []) s rF) args s 1380 55474 (va_A (lX (qcells G ad w0) [] []) s.heap.size)) (F0 m 246 ls []) := by
  have hx := hC.1
  have hb := hC.2.1
  have hJ := hC.2.2.2.2.2.2.2.1
  intro k
  induction k with
  | zero => intro w n M t_x2 x3 gq gr q_x2 cc cs H locs ls hf; exact nomatch (show (none : Option (Int32 × qMem)) = some _ from hf)
  | succ k ih =>
    intro w n M t_x2 x3 gq gr q_x2 cc cs H locs ls hf hR hl hS_x2 hcM hsM
    rw [fL_lines_L246] at hf
    refine lv_iload_n hx hb dL_lines_246 rfl (lv_at hl 3 rfl) ?_
    refine lv_aload_n hx hb dL_lines_247 rfl (lv_at hl 0 rfl) ?_
    refine lv_bipush (v := 10) hx hb dL_lines_248 (by decide) ?_
    obtain ⟨k_10, r_9, w_11, hq_8, hf⟩ := qbd3_s hf
    obtain ⟨h_12, hf⟩ := qgd hf
    refine l_callVi hC hR (l_ofXi hJ (mX5_account hJ hst hq_8) h_12) lNo_k trivial lp_C lp_C.symm (l_recv hC hR (lX_mc (k := 228) (by decide)) rfl) qkl_535 qk_536 qk_537 qk_19 qk_538 qhd_X5_account ⟨Nat.le_of_ble_eq_true rfl, Nat.le_of_ble_eq_true rfl⟩ hl.1 rfl (Nat.le_of_ble_eq_true rfl) dL_lines_250 ⟨by show _ ≤ 1380; omega, by show _ ≤ 55474; omega⟩ (fun H locs hR hk => ?_)
    have hS_x2 := lK_on qSt_k hS_x2 hk
    refine lv_icmp_ge (tgt := 285) hx hb dL_lines_253 (by decide) (fun c__13 => ?_) (fun c__13 => ?_)
    · have hf := qif_t hf c__13
      refine lv_aload_n hx hb dL_lines_285 rfl (lv_at hl 0 rfl) ?_
      refine lv_aload_n hx hb dL_lines_286 rfl (lv_at hl 0 rfl) ?_
      obtain ⟨r_15, w_16, hq_14, hf⟩ := qbd2_s hf
      refine l_callVi hC hR (l_ofMi hJ (mX5_programmeLine hJ hq_14)) lNo_k trivial lp_C lp_C.symm (l_recv hC hR (lX_mc (k := 228) (by decide)) rfl) qkl_1185 qk_1186 qk_1187 qk_19 qk_1188 qhd_X5_programmeLine ⟨Nat.le_of_ble_eq_true rfl, Nat.le_of_ble_eq_true rfl⟩ hl.1 rfl (Nat.le_of_ble_eq_true rfl) dL_lines_287 ⟨by show _ ≤ 1380; omega, by show _ ≤ 55474; omega⟩ (fun H locs hR hk => ?_)
      have hS_x2 := lK_on qSt_k hS_x2 hk
      refine lv_aload_n hx hb dL_lines_290 rfl (lv_at hl 2 rfl) ?_
      obtain ⟨r_18, w_19, hq_17, hf⟩ := qbd2_s hf
      refine l_callSi hC hR (mL_spells hJ hst hq_17) qSt_k hS_x2 lp_CR lp_CR.symm qkl_1169 qkl_1170 qkl_18 qkl_1171 qhd_L_spells ⟨Nat.le_of_ble_eq_true rfl, Nat.le_of_ble_eq_true rfl⟩ hl.1 rfl (Nat.le_of_ble_eq_true rfl) dL_lines_291 ⟨by show _ ≤ 1380; omega, by show _ ≤ 55474; omega⟩ (fun H locs hR hk => ?_)
      have hS_x2 := lK_on qSt_k hS_x2 hk
      refine lv_if_eq (tgt := 327) hx hb dL_lines_294 (by decide) (fun c__20 => ?_) (fun c__20 => ?_)
      · have hf := qif_t hf c__20
        refine lv_iconst (v := 0) hx hb dL_lines_327 (by decide) ?_
        have hk := lK_pick (ad := ad) (H := H) (C := (qcells G ad w_19)) (ex := []) (g := (lgr G gq gr n M)) [] (ex1 := []) (g1 := []) rfl (Or.inr rfl)
        have hR := lR_pick hR [] (ex1 := []) (g1 := []) (by decide) rfl (Or.inr rfl)
        have hS_x2 := lK_on qSt_k hS_x2 hk
        obtain ⟨e1, e2⟩ := qso2 hf
        exact l_iret hC hR hr (by decide) e1 (by rw [e2]) dL_lines_328 (by omega) (by omega)
      · have hf := qif_f hf c__20
        refine lv_aload_n hx hb dL_lines_297 rfl (lv_at hl 0 rfl) ?_
        refine lv_aload_n hx hb dL_lines_298 rfl (lv_at hl 1 rfl) ?_
        refine l_alen hC hR lgr_m0 rfl rfl dL_lines_299 ?_
        obtain ⟨r_21, w_22, hq_23, hf⟩ := qbd2_s hf
        refine l_callSWi hC hR (l_ofHW hJ (mL_line hJ hst hq_23)) lNo_k trivial lp_C lp_C.symm qkl_1150 qkl_1151 qkl_18 qkl_1152 qhd_L_line ⟨Nat.le_of_ble_eq_true rfl, Nat.le_of_ble_eq_true rfl⟩ hl.1 rfl (Nat.le_of_ble_eq_true rfl) dL_lines_300 ⟨by show _ ≤ 1380; omega, by show _ ≤ 55474; omega⟩ (fun H locs hR hk => ?_)
        have hS_x2 := lK_on qSt_k hS_x2 hk
        refine lv_bipush (v := (-11)) hx hb dL_lines_303 (by decide) ?_
        refine lv_icmp_ne (tgt := 327) hx hb dL_lines_305 (by decide) (fun c__24 => ?_) (fun c__24 => ?_)
        · have hf := qif_f hf c__24
          refine lv_iconst (v := 0) hx hb dL_lines_327 (by decide) ?_
          have hk := lK_pick (ad := ad) (H := H) (C := (qcells G ad w_22)) (ex := []) (g := (lgr G gq gr n M)) [] (ex1 := []) (g1 := []) rfl (Or.inr rfl)
          have hR := lR_pick hR [] (ex1 := []) (g1 := []) (by decide) rfl (Or.inr rfl)
          have hS_x2 := lK_on qSt_k hS_x2 hk
          obtain ⟨e1, e2⟩ := qso2 hf
          exact l_iret hC hR hr (by decide) e1 (by rw [e2]) dL_lines_328 (by omega) (by omega)
        · have hf := qif_t hf c__24
          refine lv_aload_n hx hb dL_lines_308 rfl (lv_at hl 0 rfl) ?_
          refine lv_aload_n hx hb dL_lines_309 rfl (lv_at hl 0 rfl) ?_
          refine lv_bipush (v := 10) hx hb dL_lines_310 (by decide) ?_
          obtain ⟨k_27, r_26, w_28, hq_25, hf⟩ := qbd3_s hf
          obtain ⟨h_29, hf⟩ := qgd hf
          refine l_callVi hC hR (l_ofXi hJ (mX5_account hJ hst hq_25) h_29) lNo_k trivial lp_C lp_C.symm (l_recv hC hR (lX_mc (k := 228) (by decide)) rfl) qkl_535 qk_536 qk_537 qk_19 qk_538 qhd_X5_account ⟨Nat.le_of_ble_eq_true rfl, Nat.le_of_ble_eq_true rfl⟩ hl.1 rfl (Nat.le_of_ble_eq_true rfl) dL_lines_312 ⟨by show _ ≤ 1380; omega, by show _ ≤ 55474; omega⟩ (fun H locs hR hk => ?_)
          have hS_x2 := lK_on qSt_k hS_x2 hk
          obtain ⟨r_30, w_31, hq_32, hf⟩ := qbd2_s hf
          refine l_callSWi hC hR (l_ofHW hJ (mL_programme hJ hst hq_32)) lNo_k trivial lp_C lp_C.symm qkl_750 qkl_751 qkl_18 qkl_752 qhd_L_programme ⟨Nat.le_of_ble_eq_true rfl, Nat.le_of_ble_eq_true rfl⟩ hl.1 rfl (Nat.le_of_ble_eq_true rfl) dL_lines_315 ⟨by show _ ≤ 1380; omega, by show _ ≤ 55474; omega⟩ (fun H locs hR hk => ?_)
          have hS_x2 := lK_on qSt_k hS_x2 hk
          refine lv_bipush (v := (-13)) hx hb dL_lines_318 (by decide) ?_
          refine lv_icmp_ne (tgt := 327) hx hb dL_lines_320 (by decide) (fun c__33 => ?_) (fun c__33 => ?_)
          · have hf := qif_f hf c__33
            refine lv_iconst (v := 0) hx hb dL_lines_327 (by decide) ?_
            have hk := lK_pick (ad := ad) (H := H) (C := (qcells G ad w_31)) (ex := []) (g := (lgr G gq gr n M)) [] (ex1 := []) (g1 := []) rfl (Or.inr rfl)
            have hR := lR_pick hR [] (ex1 := []) (g1 := []) (by decide) rfl (Or.inr rfl)
            have hS_x2 := lK_on qSt_k hS_x2 hk
            obtain ⟨e1, e2⟩ := qso2 hf
            exact l_iret hC hR hr (by decide) e1 (by rw [e2]) dL_lines_328 (by omega) (by omega)
          · have hf := qif_t hf c__33
            refine lv_iconst (v := 1) hx hb dL_lines_323 (by decide) ?_
            refine lv_goto (tgt := 328) hx hb dL_lines_324 (by decide) ?_
            have hk := lK_pick (ad := ad) (H := H) (C := (qcells G ad w_31)) (ex := []) (g := (lgr G gq gr n M)) [] (ex1 := []) (g1 := []) rfl (Or.inr rfl)
            have hR := lR_pick hR [] (ex1 := []) (g1 := []) (by decide) rfl (Or.inr rfl)
            have hS_x2 := lK_on qSt_k hS_x2 hk
            obtain ⟨e1, e2⟩ := qso2 hf
            exact l_iret hC hR hr (by decide) e1 (by rw [e2]) dL_lines_328 (by omega) (by omega)
    · have hf := qif_f hf c__13
      refine l_new (Cn := RJ4) (T := TJ4) (N := 4) (ci := 1) tyJ4 tyJ4_ok hC hR qkj_870 qkB_inst qkB_init qinJ4 rfl (fs := [.null, .int 0, .int 0, .int 0]) (fun j hj => by rcases (show j = 0 ∨ j = 1 ∨ j = 2 ∨ j = 3 by omega) with rfl | rfl | rfl | rfl <;> rfl) (by show _ ≤ 1380; omega) (by show _ ≤ 55474; omega) dL_lines_256 (fun b_34 H hR hk => ?_)
      have hS_x2 := lK_on qSt_k hS_x2 hk
      refine lv_dup hx hb dL_lines_259 rfl ?_
      refine l_callIv hC hR (mB_init hJ) lNo_k trivial lp_O (fun _ => lp_OB) qkj_872 qkj_873 rfl qkB_init qkj_874 qhd_B_init ⟨Nat.le_of_ble_eq_true rfl, Nat.le_of_ble_eq_true rfl⟩ hl.1 rfl (Nat.le_of_ble_eq_true rfl) dL_lines_260 ⟨by show _ ≤ 1380; omega, by show _ ≤ 55474; omega⟩ (fun v_35 H locs _ hR hk => ?_)
      have hR : lR D (lX (qcells G ad w0) [] []) (lX (qcells G ad w_11) [(b_34, .inr (1, [.ref v_35, .int 0, .int 0, .int (nI ([] : List Int32).length)])), (v_35, .inl (G 5, 16, .inl (fun _ => 0)))] (lgr G gq gr n M)) s H locs := hR
      have hS_x2 := lK_on qSt_k hS_x2 hk
      refine lv_aload_n hx hb dL_lines_263 rfl (lv_at hl 2 rfl) ?_
      obtain ⟨g_36, hf⟩ := qgd hf
      have ha_37 := qSt_asc hS_x2
      refine l_callVr hC hR (mB_aps hJ (b := b_34) (v := v_35) (cap := 16) (n := ([] : List Int32).length) (f := (fun _ => 0)) (q := q_x2) (t := t_x2) g_36 lSB_0.2.2.1 lSB_0.2.2.2.1 lSB_0.2.2.2.2.2) qSt_k hS_x2 lp_B (fun _ _ => lp_B1) (l_recv hC hR (lX_mx 0 rfl) (ci := 1) rfl) qkj_1015 qkj_1016 qkj_1017 qkB_init qkj_1018 qhd_B_aps ⟨Nat.le_of_ble_eq_true rfl, Nat.le_of_ble_eq_true rfl⟩ hl.1 rfl (Nat.le_of_ble_eq_true rfl) dL_lines_264 ⟨by show _ ≤ 1380; omega, by show _ ≤ 55474; omega⟩ (fun _ _ => lNo_k) (fun u_38 a_39 H locs hY hR hk _ => ?_)
      obtain ⟨ea, hB_40⟩ := lSB_aps lSB_0 ha_37 g_36 hY
      rw [ea]
      obtain ⟨t_41, et_41⟩ : ∃ y : List Int32, y = ([] : List Int32) ++ t_x2 := ⟨_, rfl⟩
      have hf := qnm_t hf et_41
      rw [← et_41] at hB_40
      have hR : lR D (lX (qcells G ad w0) [] []) (lX (qcells G ad w_11) [(b_34, .inr (1, [.ref u_38.1, .int 0, .int 0, .int (nI t_41.length)])), (u_38.1, .inl (G 5, u_38.2.1, .inl u_38.2.2))] (lgr G gq gr n M)) s H locs := by rw [et_41, List.length_append]; exact hR
      have hS_x2 := lK_on qSt_k hS_x2 hk
      have hS_x2 : qSt q_x2 t_x2 (lA ad (lX (qcells G ad w_11) [(b_34, .inr (1, [.ref u_38.1, .int 0, .int 0, .int (nI t_41.length)])), (u_38.1, .inl (G 5, u_38.2.1, .inl u_38.2.2))] (lgr G gq gr n M)) H.size) s H := by rw [et_41, List.length_append]; exact hS_x2
      refine lv_aload_n hx hb dL_lines_267 rfl (lv_at hl 0 rfl) ?_
      refine lv_iload_n hx hb dL_lines_268 rfl (lv_at hl 3 rfl) ?_
      obtain ⟨r_42, w_43, hq_44, hf⟩ := qbd2_s hf
      refine l_callSWi hC hR (l_ofHW hJ (mL_programme hJ hst hq_44)) lNo_k trivial lp_C lp_C.symm qkl_750 qkl_751 qkl_18 qkl_752 qhd_L_programme ⟨Nat.le_of_ble_eq_true rfl, Nat.le_of_ble_eq_true rfl⟩ hl.1 rfl (Nat.le_of_ble_eq_true rfl) dL_lines_269 ⟨by show _ ≤ 1380; omega, by show _ ≤ 55474; omega⟩ (fun H locs hR hk => ?_)
      have hS_x2 := lK_on qSt_k hS_x2 hk
      obtain ⟨g_45, hf⟩ := qgd hf
      obtain ⟨g_46, hf⟩ := qgd hf
      obtain ⟨k_47, ek_47⟩ : ∃ y : Nat, y = (r_42).toNatClampNeg := ⟨_, rfl⟩
      have hf := qnm_t hf ek_47
      have hk_47 : k_47 < 100 := by rw [ek_47]; exact lq_lt g_45
      refine l_eqi (x := r_42) (y := nI k_47) (by rw [ek_47]; exact lq_nI g_45 (by decide)) ?_
      refine l_callVr hC hR (mB_api hJ (b := b_34) (v := u_38.1) (cap := u_38.2.1) (n := t_41.length) (f := u_38.2.2) (x := k_47) (o1 := o1) (o2 := o2) hk_47 g_46 hB_40.2.2.1 hB_40.2.2.2.1 hB_40.2.2.2.2.2) lDg_k (l_now lDg_k hR hE) lp_B (fun _ _ => lp_B1) (l_recv hC hR (lX_mx 0 rfl) (ci := 1) rfl) qkj_1061 qkj_1062 qkj_1063 qkB_init qkj_1064 qhd_B_api ⟨Nat.le_of_ble_eq_true rfl, Nat.le_of_ble_eq_true rfl⟩ hl.1 rfl (Nat.le_of_ble_eq_true rfl) dL_lines_272 ⟨by show _ ≤ 1380; omega, by show _ ≤ 55474; omega⟩ (fun _ _ => lNo_k) (fun u_48 a_49 H locs hY hR hk _ => ?_)
      obtain ⟨ea, hB_50⟩ := lSB_api hB_40 hk_47 g_46 hY
      rw [ea]
      obtain ⟨t_51, et_51⟩ : ∃ y : List Int32, y = t_41 ++ ldig k_47 := ⟨_, rfl⟩
      have hf := qnm_t hf et_51
      rw [← et_51] at hB_50
      have hR : lR D (lX (qcells G ad w0) [] []) (lX (qcells G ad w_43) [(b_34, .inr (1, [.ref u_48.1, .int 0, .int 0, .int (nI t_51.length)])), (u_48.1, .inl (G 5, u_48.2.1, .inl u_48.2.2))] (lgr G gq gr n M)) s H locs := by rw [et_51, List.length_append, ldig_len]; exact hR
      have hS_x2 := lK_on qSt_k hS_x2 hk
      have hS_x2 : qSt q_x2 t_x2 (lA ad (lX (qcells G ad w_43) [(b_34, .inr (1, [.ref u_48.1, .int 0, .int 0, .int (nI t_51.length)])), (u_48.1, .inl (G 5, u_48.2.1, .inl u_48.2.2))] (lgr G gq gr n M)) H.size) s H := by rw [et_51, List.length_append, ldig_len]; exact hS_x2
      refine l_callVs (tx := t_51) hC hR (mB_toString hJ (b := b_34) (v := u_48.1) (cap := u_48.2.1) (n := t_51.length) (f := u_48.2.2) (tx := t_51) hB_50.2.1 hB_50.2.2.1 hB_50.2.2.2.1 hB_50.2.2.2.2.2 hB_50.1 rfl hB_50.2.2.2.2.1) lNo_k trivial lp_B lp_B1 (lad_lt hR) (l_recv hC hR (lX_mx 0 rfl) (ci := 1) rfl) qkj_1087 qkj_1088 qkj_1089 qkB_init qkj_1090 qhd_B_toString ⟨Nat.le_of_ble_eq_true rfl, Nat.le_of_ble_eq_true rfl⟩ hl.1 rfl (Nat.le_of_ble_eq_true rfl) dL_lines_275 ⟨by show _ ≤ 1380; omega, by show _ ≤ 55474; omega⟩ (fun sq_52 H locs hR hk hS_53 => ?_)
      have hS_x2 := lK_on qSt_k hS_x2 hk
      refine lv_astore_n (lv' := [(2, .ref sq_52), (0, .ref (ad 228)), (1, .ref gq), (3, .int x3)]) hx hb dL_lines_278 rfl hl (by decide) rfl (fun ls hl => ?_)
      obtain ⟨x_54, ex_54⟩ : ∃ y : Int32, y = x3 + 1 := ⟨_, rfl⟩
      have hf := qnm_t hf ex_54
      refine lv_iinc (v := x_54) (lv' := [(3, .int x_54), (2, .ref sq_52), (0, .ref (ad 228)), (1, .ref gq)]) hx hb dL_lines_279 hl (k := 3) rfl (by rw [ex_54]; rfl) (by decide) rfl (fun ls hl => ?_)
      refine lv_goto (tgt := 246) hx hb dL_lines_282 (by decide) ?_
      have hk := lK_pick (ad := ad) (H := H) (C := (qcells G ad w_43)) (ex := [(b_34, .inr (1, [.ref u_48.1, .int 0, .int 0, .int (nI t_51.length)])), (u_48.1, .inl (G 5, u_48.2.1, .inl u_48.2.2))]) (g := (lgr G gq gr n M)) [] (ex1 := []) (g1 := (lgr G gq gr n M)) rfl (Or.inl rfl)
      have hR := lR_pick hR [] (ex1 := []) (g1 := (lgr G gq gr n M)) (by decide) rfl (Or.inl rfl)
      have hS_53 := lK_on qSt_k hS_53 hk
      exact ih _ _ _ _ _ _ _ _ _ _ _ _ _ hf hR (lv_sub hl [2, 3, 1, 0] rfl) hS_53 (by omega) (by omega)
def fL_lines_L211  (k7 : (qMem → Nat → (Nat → Nat → Int32) → Int32 → Option (Int32 × qMem))) (w : qMem) (n : Nat) (M : Nat → Nat → Int32) (t111 : List Int32) (x2 : Int32) (t_s0 : List Int32) : Option (Int32 × qMem) :=
  if t111.length + t_s0.length ≤ 60 then
  qnm (t111 ++ t_s0) fun (t_124 : List Int32) =>
  qbd2 (fL_line w x2) fun (r_127 : Int32) (w_128 : qMem) =>
  qbd2 (fL_spells w_128 r_127 t_124) fun (r_131 : Int32) (w_132 : qMem) =>
  if r_131 = 0 then
    none
  else
    qnm (x2 + 1) fun (x_134 : Int32) =>
    k7 w_132 n M x_134
  else none
set_option maxHeartbeats 4000000 in
set_option maxRecDepth 100000 in
theorem mL_lines_L211 {p : Program} {l : Launch} {e : Env} {s : State} {m : MethodId} {args : Array Value} {below : List Frame} {meth : Method} {c : Code} {D : va_G} {G : Nat → ClassId} {ad : Nat → Nat} {o1 : Nat} {o2 : Nat} {w0 : qMem} {rF : Int32} {wF : qMem} {k7 : (qMem → Nat → (Nat → Nat → Int32) → Int32 → Option (Int32 × qMem))} {B S : Nat} (hBM : B ≤ 1380) (hSM : S ≤ 55474) (hst : l.stackTraces = false) (hC : lCx p c cL_lines 6 s m args meth RL D G ad (lX (qcells G ad w0) [] [])) (hr : meth.sig.returnType = some .boolean) (hE : (lDg o1 o2) (lA ad (lX (qcells G ad w0) [] []) s.heap.size) s s.heap) (hk7 : ∀ (w : qMem) (n : Nat) (M : Nat → Nat → Int32) (x2 : Int32) (gq : Nat) (gr : Nat → Nat) (cc cs : Nat) (H : Heap) (locs : List Loc) (ls : Array Slot), k7 w n M x2 = some (rF, wF) → lR D (lX (qcells G ad w0) [] []) (lX (qcells G ad w) [] (lgr G gq gr n M)) s H locs → lv_has ls 6 [(0, .ref (ad 228)), (1, .ref gq), (2, .int x2)] → cc ≤ B → cs ≤ S → W p l e (qrm 10 1380 55474) s m args below meth c H locs cc cs (MQ below (lQi D (lX (qcells G ad w0) [] []) (lX (qcells G ad wF) [] []) s rF) args s 1380 55474 (va_A (lX (qcells G ad w0) [] []) s.heap.size)) (F0 m 7 ls [])) : ∀ (w : qMem) (n : Nat) (M : Nat → Nat → Int32) (t111 : List Int32) (x2 : Int32) (t_s0 : List Int32) (gq : Nat) (gr : Nat → Nat) (q111 : Nat) (v111 : Nat) (c111 : Nat) (f111 : Nat → Int32) (q_s0 : Nat) (hB111 : lSB t111 c111 f111) (cc cs : Nat) (H : Heap) (locs : List Loc) (ls : Array Slot), fL_lines_L211 k7 w n M t111 x2 t_s0 = some (rF, wF) → lR D (lX (qcells G ad w0) [] []) (lX (qcells G ad w) [(q111, .inr (1, [.ref v111, .int 0, .int 0, .int (nI t111.length)])), (v111, .inl (G 5, c111, .inl f111))] (lgr G gq gr n M)) s H locs → lv_has ls 6 [(0, .ref (ad 228)), (1, .ref gq), (2, .int x2)] → qSt q_s0 t_s0 (lA ad (lX (qcells G ad w) [(q111, .inr (1, [.ref v111, .int 0, .int 0, .int (nI t111.length)])), (v111, .inl (G 5, c111, .inl f111))] (lgr G gq gr n M)) H.size) s H → cc + 25 ≤ B → cs + 326 ≤ S → cc ≤ 1380 → cs ≤ 55474 → W p l e (qrm 10 1380 55474) s m args below meth c H locs cc cs (MQ below (lQi D (lX (qcells G ad w0) [] []) (lX (qcells G ad wF) [] []) s rF) args s 1380 55474 (va_A (lX (qcells G ad w0) [] []) s.heap.size)) (F0 m 211 ls [.ref q_s0, .ref q111]) := by
  have hx := hC.1
  have hb := hC.2.1
  have hJ := hC.2.2.2.2.2.2.2.1
  intro w n M t111 x2 t_s0 gq gr q111 v111 c111 f111 q_s0 hB111 cc cs H locs ls hf hR hl hS_s0 hcB hsB hcM hsM
  unfold fL_lines_L211 at hf
  obtain ⟨g_119, hf⟩ := qgd hf
  have ha_120 := qSt_asc hS_s0
  refine l_callVr hC hR (mB_aps hJ (b := q111) (v := v111) (cap := c111) (n := t111.length) (f := f111) (q := q_s0) (t := t_s0) g_119 hB111.2.2.1 hB111.2.2.2.1 hB111.2.2.2.2.2) qSt_k hS_s0 lp_B (fun _ _ => lp_B1) (l_recv hC hR (lX_mx 0 rfl) (ci := 1) rfl) qkj_1015 qkj_1016 qkj_1017 qkB_init qkj_1018 qhd_B_aps ⟨Nat.le_of_ble_eq_true rfl, Nat.le_of_ble_eq_true rfl⟩ hl.1 rfl (Nat.le_of_ble_eq_true rfl) dL_lines_211 ⟨by show _ ≤ 1380; omega, by show _ ≤ 55474; omega⟩ (fun _ _ => lNo_k) (fun u_121 a_122 H locs hY hR hk _ => ?_)
  obtain ⟨ea, hB_123⟩ := lSB_aps hB111 ha_120 g_119 hY
  rw [ea]
  obtain ⟨t_124, et_124⟩ : ∃ y : List Int32, y = t111 ++ t_s0 := ⟨_, rfl⟩
  have hf := qnm_t hf et_124
  rw [← et_124] at hB_123
  have hR : lR D (lX (qcells G ad w0) [] []) (lX (qcells G ad w) [(q111, .inr (1, [.ref u_121.1, .int 0, .int 0, .int (nI t_124.length)])), (u_121.1, .inl (G 5, u_121.2.1, .inl u_121.2.2))] (lgr G gq gr n M)) s H locs := by rw [et_124, List.length_append]; exact hR
  refine l_callVs (tx := t_124) hC hR (mB_toString hJ (b := q111) (v := u_121.1) (cap := u_121.2.1) (n := t_124.length) (f := u_121.2.2) (tx := t_124) hB_123.2.1 hB_123.2.2.1 hB_123.2.2.2.1 hB_123.2.2.2.2.2 hB_123.1 rfl hB_123.2.2.2.2.1) lNo_k trivial lp_B lp_B1 (lad_lt hR) (l_recv hC hR (lX_mx 0 rfl) (ci := 1) rfl) qkj_1087 qkj_1088 qkj_1089 qkB_init qkj_1090 qhd_B_toString ⟨Nat.le_of_ble_eq_true rfl, Nat.le_of_ble_eq_true rfl⟩ hl.1 rfl (Nat.le_of_ble_eq_true rfl) dL_lines_214 ⟨by show _ ≤ 1380; omega, by show _ ≤ 55474; omega⟩ (fun sq_125 H locs hR hk hS_126 => ?_)
  refine lv_astore (lv' := [(4, .ref sq_125), (0, .ref (ad 228)), (1, .ref gq), (2, .int x2)]) hx hb dL_lines_217 hl (by decide) rfl (fun ls hl => ?_)
  refine lv_aload_n hx hb dL_lines_219 rfl (lv_at hl 1 rfl) ?_
  refine lv_aload_n hx hb dL_lines_220 rfl (lv_at hl 1 rfl) ?_
  refine lv_iload_n hx hb dL_lines_221 rfl (lv_at hl 3 rfl) ?_
  obtain ⟨r_127, w_128, hq_129, hf⟩ := qbd2_s hf
  refine l_callSWi hC hR (l_ofHW hJ (mL_line hJ hst hq_129)) lNo_k trivial lp_C lp_C.symm qkl_1150 qkl_1151 qkl_18 qkl_1152 qhd_L_line ⟨Nat.le_of_ble_eq_true rfl, Nat.le_of_ble_eq_true rfl⟩ hl.1 rfl (Nat.le_of_ble_eq_true rfl) dL_lines_222 ⟨by show _ ≤ 1380; omega, by show _ ≤ 55474; omega⟩ (fun H locs hR hk => ?_)
  have hS_126 := lK_on qSt_k hS_126 hk
  refine lv_aload hx hb dL_lines_225 (lv_at hl 0 rfl) ?_
  obtain ⟨r_131, w_132, hq_130, hf⟩ := qbd2_s hf
  refine l_callSi hC hR (mL_spells hJ hst hq_130) qSt_k hS_126 lp_CR lp_CR.symm qkl_1169 qkl_1170 qkl_18 qkl_1171 qhd_L_spells ⟨Nat.le_of_ble_eq_true rfl, Nat.le_of_ble_eq_true rfl⟩ hl.1 rfl (Nat.le_of_ble_eq_true rfl) dL_lines_227 ⟨by show _ ≤ 1380; omega, by show _ ≤ 55474; omega⟩ (fun H locs hR hk => ?_)
  have hS_126 := lK_on qSt_k hS_126 hk
  refine lv_if_ne (tgt := 235) hx hb dL_lines_230 (by decide) (fun c__133 => ?_) (fun c__133 => ?_)
  · have hf := qif_f hf c__133
    obtain ⟨x_134, ex_134⟩ : ∃ y : Int32, y = x2 + 1 := ⟨_, rfl⟩
    have hf := qnm_t hf ex_134
    refine lv_iinc (v := x_134) (lv' := [(2, .int x_134), (4, .ref sq_125), (0, .ref (ad 228)), (1, .ref gq)]) hx hb dL_lines_235 hl (k := 3) rfl (by rw [ex_134]; rfl) (by decide) rfl (fun ls hl => ?_)
    refine lv_goto (tgt := 7) hx hb dL_lines_238 (by decide) ?_
    have hk := lK_pick (ad := ad) (H := H) (C := (qcells G ad w_132)) (ex := [(q111, .inr (1, [.ref u_121.1, .int 0, .int 0, .int (nI t_124.length)])), (u_121.1, .inl (G 5, u_121.2.1, .inl u_121.2.2))]) (g := (lgr G gq gr n M)) [] (ex1 := []) (g1 := (lgr G gq gr n M)) rfl (Or.inl rfl)
    have hR := lR_pick hR [] (ex1 := []) (g1 := (lgr G gq gr n M)) (by decide) rfl (Or.inl rfl)
    have hS_126 := lK_on qSt_k hS_126 hk
    exact hk7 _ _ _ _ _ _ _ _ _ _ _ hf hR (lv_sub hl [2, 3, 0] rfl) (by omega) (by omega)
  · have hf := qif_t hf c__133
    exact nomatch hf
def fL_lines_L193  (k7 : (qMem → Nat → (Nat → Nat → Int32) → Int32 → Option (Int32 × qMem))) (w : qMem) (n : Nat) (M : Nat → Nat → Int32) (t111 : List Int32) (x2 : Int32) (j3 : Nat) (t_s0 : List Int32) : Option (Int32 × qMem) :=
  if t111.length + t_s0.length ≤ 60 then
  qnm (t111 ++ t_s0) fun (t_117 : List Int32) =>
  if M j3 4 = 1 then
    fL_lines_L211 k7 w n M t_117 x2 (qtx.getD 15 [])
  else
    fL_lines_L211 k7 w n M t_117 x2 (qtx.getD 11 [])
  else none
set_option maxHeartbeats 4000000 in
set_option maxRecDepth 100000 in
theorem mL_lines_L193 {p : Program} {l : Launch} {e : Env} {s : State} {m : MethodId} {args : Array Value} {below : List Frame} {meth : Method} {c : Code} {D : va_G} {G : Nat → ClassId} {ad : Nat → Nat} {o1 : Nat} {o2 : Nat} {w0 : qMem} {rF : Int32} {wF : qMem} {k7 : (qMem → Nat → (Nat → Nat → Int32) → Int32 → Option (Int32 × qMem))} {B S : Nat} (hBM : B ≤ 1380) (hSM : S ≤ 55474) (hst : l.stackTraces = false) (hC : lCx p c cL_lines 6 s m args meth RL D G ad (lX (qcells G ad w0) [] [])) (hr : meth.sig.returnType = some .boolean) (hE : (lDg o1 o2) (lA ad (lX (qcells G ad w0) [] []) s.heap.size) s s.heap) (hk7 : ∀ (w : qMem) (n : Nat) (M : Nat → Nat → Int32) (x2 : Int32) (gq : Nat) (gr : Nat → Nat) (cc cs : Nat) (H : Heap) (locs : List Loc) (ls : Array Slot), k7 w n M x2 = some (rF, wF) → lR D (lX (qcells G ad w0) [] []) (lX (qcells G ad w) [] (lgr G gq gr n M)) s H locs → lv_has ls 6 [(0, .ref (ad 228)), (1, .ref gq), (2, .int x2)] → cc ≤ B → cs ≤ S → W p l e (qrm 10 1380 55474) s m args below meth c H locs cc cs (MQ below (lQi D (lX (qcells G ad w0) [] []) (lX (qcells G ad wF) [] []) s rF) args s 1380 55474 (va_A (lX (qcells G ad w0) [] []) s.heap.size)) (F0 m 7 ls [])) : ∀ (w : qMem) (n : Nat) (M : Nat → Nat → Int32) (t111 : List Int32) (x2 : Int32) (j3 : Nat) (t_s0 : List Int32) (gq : Nat) (gr : Nat → Nat) (q111 : Nat) (v111 : Nat) (c111 : Nat) (f111 : Nat → Int32) (q_s0 : Nat) (hB111 : lSB t111 c111 f111) (hj3 : j3 < n) (cc cs : Nat) (H : Heap) (locs : List Loc) (ls : Array Slot), fL_lines_L193 k7 w n M t111 x2 j3 t_s0 = some (rF, wF) → lR D (lX (qcells G ad w0) [] []) (lX (qcells G ad w) [(q111, .inr (1, [.ref v111, .int 0, .int 0, .int (nI t111.length)])), (v111, .inl (G 5, c111, .inl f111))] (lgr G gq gr n M)) s H locs → lv_has ls 6 [(0, .ref (ad 228)), (1, .ref gq), (2, .int x2), (3, .ref (gr j3))] → qSt q_s0 t_s0 (lA ad (lX (qcells G ad w) [(q111, .inr (1, [.ref v111, .int 0, .int 0, .int (nI t111.length)])), (v111, .inl (G 5, c111, .inl f111))] (lgr G gq gr n M)) H.size) s H → cc + 26 ≤ B → cs + 456 ≤ S → cc ≤ 1380 → cs ≤ 55474 → W p l e (qrm 10 1380 55474) s m args below meth c H locs cc cs (MQ below (lQi D (lX (qcells G ad w0) [] []) (lX (qcells G ad wF) [] []) s rF) args s 1380 55474 (va_A (lX (qcells G ad w0) [] []) s.heap.size)) (F0 m 193 ls [.ref q_s0, .ref q111]) := by
  have hx := hC.1
  have hb := hC.2.1
  have hJ := hC.2.2.2.2.2.2.2.1
  intro w n M t111 x2 j3 t_s0 gq gr q111 v111 c111 f111 q_s0 hB111 hj3 cc cs H locs ls hf hR hl hS_s0 hcB hsB hcM hsM
  unfold fL_lines_L193 at hf
  obtain ⟨g_112, hf⟩ := qgd hf
  have ha_113 := qSt_asc hS_s0
  refine l_callVr hC hR (mB_aps hJ (b := q111) (v := v111) (cap := c111) (n := t111.length) (f := f111) (q := q_s0) (t := t_s0) g_112 hB111.2.2.1 hB111.2.2.2.1 hB111.2.2.2.2.2) qSt_k hS_s0 lp_B (fun _ _ => lp_B1) (l_recv hC hR (lX_mx 0 rfl) (ci := 1) rfl) qkj_1015 qkj_1016 qkj_1017 qkB_init qkj_1018 qhd_B_aps ⟨Nat.le_of_ble_eq_true rfl, Nat.le_of_ble_eq_true rfl⟩ hl.1 rfl (Nat.le_of_ble_eq_true rfl) dL_lines_193 ⟨by show _ ≤ 1380; omega, by show _ ≤ 55474; omega⟩ (fun _ _ => lNo_k) (fun u_114 a_115 H locs hY hR hk _ => ?_)
  obtain ⟨ea, hB_116⟩ := lSB_aps hB111 ha_113 g_112 hY
  rw [ea]
  obtain ⟨t_117, et_117⟩ : ∃ y : List Int32, y = t111 ++ t_s0 := ⟨_, rfl⟩
  have hf := qnm_t hf et_117
  rw [← et_117] at hB_116
  have hR : lR D (lX (qcells G ad w0) [] []) (lX (qcells G ad w) [(q111, .inr (1, [.ref u_114.1, .int 0, .int 0, .int (nI t_117.length)])), (u_114.1, .inl (G 5, u_114.2.1, .inl u_114.2.2))] (lgr G gq gr n M)) s H locs := by rw [et_117, List.length_append]; exact hR
  refine lv_aload_n hx hb dL_lines_196 rfl (lv_at hl 3 rfl) ?_
  refine lv_iconst (v := 4) hx hb dL_lines_197 (by decide) ?_
  refine l_ild hC hR (lgr_mr hj3) (j := 4) (by decide) (by decide) dL_lines_198 ?_
  refine lv_iconst (v := 1) hx hb dL_lines_199 (by decide) ?_
  refine lv_icmp_ne (tgt := 209) hx hb dL_lines_200 (by decide) (fun c__118 => ?_) (fun c__118 => ?_)
  · have hf := qif_f hf c__118
    refine va_ldcS (q := ad 1011) hx hb hC.2.2.2.1 (hC.2.2.2.2.2.2.2.2.1.2.1 ("QuakeRehearsalLaw", 255, "", 11) (by decide +kernel)) dL_lines_209 ?_
    exact mL_lines_L211 (B := B) (S := S) hBM hSM hst hC hr hE hk7 _ _ _ _ _ _ _ _ _ _ _ _ _ hB_116 _ _ _ _ _ hf hR (lv_sub hl [0, 1, 2] rfl) (l_now qSt_k hR (lSt_of hC (show 11 < 20 by decide))) (by omega) (by omega) (by omega) (by omega)
  · have hf := qif_t hf c__118
    refine va_ldcSW (q := ad 1015) hx hb hC.2.2.2.1 (hC.2.2.2.2.2.2.2.2.1.2.1 ("QuakeRehearsalLaw", 273, "!", 15) (by decide +kernel)) dL_lines_203 ?_
    refine lv_goto (tgt := 211) hx hb dL_lines_206 (by decide) ?_
    exact mL_lines_L211 (B := B) (S := S) hBM hSM hst hC hr hE hk7 _ _ _ _ _ _ _ _ _ _ _ _ _ hB_116 _ _ _ _ _ hf hR (lv_sub hl [0, 1, 2] rfl) (l_now qSt_k hR (lSt_of hC (show 15 < 20 by decide))) (by omega) (by omega) (by omega) (by omega)
def fL_lines_L157  (k7 : (qMem → Nat → (Nat → Nat → Int32) → Int32 → Option (Int32 × qMem))) (w : qMem) (n : Nat) (M : Nat → Nat → Int32) (t111 : List Int32) (x2 : Int32) (j3 : Nat) (t_s0 : List Int32) : Option (Int32 × qMem) :=
  if t111.length + t_s0.length ≤ 60 then
  qnm (t111 ++ t_s0) fun (t_110 : List Int32) =>
  if M j3 5 ≤ 0 then
    fL_lines_L193 k7 w n M t_110 x2 j3 (qtx.getD 11 [])
  else
    if ([] : List Int32).length + (qtx.getD 14 []).length ≤ 60 then
    qnm (([] : List Int32) ++ (qtx.getD 14 [])) fun (t_142 : List Int32) =>
    if qin (M j3 5) 100 = true then
    if t_142.length + 2 ≤ 60 then
    qnm ((M j3 5).toNatClampNeg) fun (k_145 : Nat) =>
    qnm (t_142 ++ ldig k_145) fun (t_149 : List Int32) =>
    fL_lines_L193 k7 w n M t_110 x2 j3 t_149
    else none
    else none
    else none
  else none
set_option maxHeartbeats 4000000 in
set_option maxRecDepth 100000 in
theorem mL_lines_L157 {p : Program} {l : Launch} {e : Env} {s : State} {m : MethodId} {args : Array Value} {below : List Frame} {meth : Method} {c : Code} {D : va_G} {G : Nat → ClassId} {ad : Nat → Nat} {o1 : Nat} {o2 : Nat} {w0 : qMem} {rF : Int32} {wF : qMem} {k7 : (qMem → Nat → (Nat → Nat → Int32) → Int32 → Option (Int32 × qMem))} {B S : Nat} (hBM : B ≤ 1380) (hSM : S ≤ 55474) (hst : l.stackTraces = false) (hC : lCx p c cL_lines 6 s m args meth RL D G ad (lX (qcells G ad w0) [] [])) (hr : meth.sig.returnType = some .boolean) (hE : (lDg o1 o2) (lA ad (lX (qcells G ad w0) [] []) s.heap.size) s s.heap) (hk7 : ∀ (w : qMem) (n : Nat) (M : Nat → Nat → Int32) (x2 : Int32) (gq : Nat) (gr : Nat → Nat) (cc cs : Nat) (H : Heap) (locs : List Loc) (ls : Array Slot), k7 w n M x2 = some (rF, wF) → lR D (lX (qcells G ad w0) [] []) (lX (qcells G ad w) [] (lgr G gq gr n M)) s H locs → lv_has ls 6 [(0, .ref (ad 228)), (1, .ref gq), (2, .int x2)] → cc ≤ B → cs ≤ S → W p l e (qrm 10 1380 55474) s m args below meth c H locs cc cs (MQ below (lQi D (lX (qcells G ad w0) [] []) (lX (qcells G ad wF) [] []) s rF) args s 1380 55474 (va_A (lX (qcells G ad w0) [] []) s.heap.size)) (F0 m 7 ls [])) : ∀ (w : qMem) (n : Nat) (M : Nat → Nat → Int32) (t111 : List Int32) (x2 : Int32) (j3 : Nat) (t_s0 : List Int32) (gq : Nat) (gr : Nat → Nat) (q111 : Nat) (v111 : Nat) (c111 : Nat) (f111 : Nat → Int32) (q_s0 : Nat) (hB111 : lSB t111 c111 f111) (hj3 : j3 < n) (cc cs : Nat) (H : Heap) (locs : List Loc) (ls : Array Slot), fL_lines_L157 k7 w n M t111 x2 j3 t_s0 = some (rF, wF) → lR D (lX (qcells G ad w0) [] []) (lX (qcells G ad w) [(q111, .inr (1, [.ref v111, .int 0, .int 0, .int (nI t111.length)])), (v111, .inl (G 5, c111, .inl f111))] (lgr G gq gr n M)) s H locs → lv_has ls 6 [(0, .ref (ad 228)), (1, .ref gq), (2, .int x2), (3, .ref (gr j3))] → qSt q_s0 t_s0 (lA ad (lX (qcells G ad w) [(q111, .inr (1, [.ref v111, .int 0, .int 0, .int (nI t111.length)])), (v111, .inl (G 5, c111, .inl f111))] (lgr G gq gr n M)) H.size) s H → cc + 33 ≤ B → cs + 930 ≤ S → cc ≤ 1380 → cs ≤ 55474 → W p l e (qrm 10 1380 55474) s m args below meth c H locs cc cs (MQ below (lQi D (lX (qcells G ad w0) [] []) (lX (qcells G ad wF) [] []) s rF) args s 1380 55474 (va_A (lX (qcells G ad w0) [] []) s.heap.size)) (F0 m 157 ls [.ref q_s0, .ref q111]) := by
  have hx := hC.1
  have hb := hC.2.1
  have hJ := hC.2.2.2.2.2.2.2.1
  intro w n M t111 x2 j3 t_s0 gq gr q111 v111 c111 f111 q_s0 hB111 hj3 cc cs H locs ls hf hR hl hS_s0 hcB hsB hcM hsM
  unfold fL_lines_L157 at hf
  obtain ⟨g_105, hf⟩ := qgd hf
  have ha_106 := qSt_asc hS_s0
  refine l_callVr hC hR (mB_aps hJ (b := q111) (v := v111) (cap := c111) (n := t111.length) (f := f111) (q := q_s0) (t := t_s0) g_105 hB111.2.2.1 hB111.2.2.2.1 hB111.2.2.2.2.2) qSt_k hS_s0 lp_B (fun _ _ => lp_B1) (l_recv hC hR (lX_mx 0 rfl) (ci := 1) rfl) qkj_1015 qkj_1016 qkj_1017 qkB_init qkj_1018 qhd_B_aps ⟨Nat.le_of_ble_eq_true rfl, Nat.le_of_ble_eq_true rfl⟩ hl.1 rfl (Nat.le_of_ble_eq_true rfl) dL_lines_157 ⟨by show _ ≤ 1380; omega, by show _ ≤ 55474; omega⟩ (fun _ _ => lNo_k) (fun u_107 a_108 H locs hY hR hk _ => ?_)
  obtain ⟨ea, hB_109⟩ := lSB_aps hB111 ha_106 g_105 hY
  rw [ea]
  obtain ⟨t_110, et_110⟩ : ∃ y : List Int32, y = t111 ++ t_s0 := ⟨_, rfl⟩
  have hf := qnm_t hf et_110
  rw [← et_110] at hB_109
  have hR : lR D (lX (qcells G ad w0) [] []) (lX (qcells G ad w) [(q111, .inr (1, [.ref u_107.1, .int 0, .int 0, .int (nI t_110.length)])), (u_107.1, .inl (G 5, u_107.2.1, .inl u_107.2.2))] (lgr G gq gr n M)) s H locs := by rw [et_110, List.length_append]; exact hR
  refine lv_aload_n hx hb dL_lines_160 rfl (lv_at hl 3 rfl) ?_
  refine lv_iconst (v := 5) hx hb dL_lines_161 (by decide) ?_
  refine l_ild hC hR (lgr_mr hj3) (j := 5) (by decide) (by decide) dL_lines_162 ?_
  refine lv_if_le (tgt := 191) hx hb dL_lines_163 (by decide) (fun c__111 => ?_) (fun c__111 => ?_)
  · have hf := qif_t hf c__111
    refine va_ldcS (q := ad 1011) hx hb hC.2.2.2.1 (hC.2.2.2.2.2.2.2.2.1.2.1 ("QuakeRehearsalLaw", 255, "", 11) (by decide +kernel)) dL_lines_191 ?_
    exact mL_lines_L193 (B := B) (S := S) hBM hSM hst hC hr hE hk7 _ _ _ _ _ _ _ _ _ _ _ _ _ _ hB_109 hj3 _ _ _ _ _ hf hR (lv_sub hl [0, 1, 2, 3] rfl) (l_now qSt_k hR (lSt_of hC (show 11 < 20 by decide))) (by omega) (by omega) (by omega) (by omega)
  · have hf := qif_f hf c__111
    refine l_new (Cn := RJ4) (T := TJ4) (N := 4) (ci := 1) tyJ4 tyJ4_ok hC hR qkj_870 qkB_inst qkB_init qinJ4 rfl (fs := [.null, .int 0, .int 0, .int 0]) (fun j hj => by rcases (show j = 0 ∨ j = 1 ∨ j = 2 ∨ j = 3 by omega) with rfl | rfl | rfl | rfl <;> rfl) (by show _ ≤ 1380; omega) (by show _ ≤ 55474; omega) dL_lines_166 (fun b_135 H hR hk => ?_)
    refine lv_dup hx hb dL_lines_169 rfl ?_
    refine l_callIv hC hR (mB_init hJ) lNo_k trivial lp_O (fun _ => lp_OB) qkj_872 qkj_873 rfl qkB_init qkj_874 qhd_B_init ⟨Nat.le_of_ble_eq_true rfl, Nat.le_of_ble_eq_true rfl⟩ hl.1 rfl (Nat.le_of_ble_eq_true rfl) dL_lines_170 ⟨by show _ ≤ 1380; omega, by show _ ≤ 55474; omega⟩ (fun v_136 H locs _ hR hk => ?_)
    have hR : lR D (lX (qcells G ad w0) [] []) (lX (qcells G ad w) [(b_135, .inr (1, [.ref v_136, .int 0, .int 0, .int (nI ([] : List Int32).length)])), (v_136, .inl (G 5, 16, .inl (fun _ => 0))), (q111, .inr (1, [.ref u_107.1, .int 0, .int 0, .int (nI t_110.length)])), (u_107.1, .inl (G 5, u_107.2.1, .inl u_107.2.2))] (lgr G gq gr n M)) s H locs := hR
    refine va_ldcSW (q := ad 1014) hx hb hC.2.2.2.1 (hC.2.2.2.2.2.2.2.2.1.2.1 ("QuakeRehearsalLaw", 271, "#", 14) (by decide +kernel)) dL_lines_173 ?_
    obtain ⟨g_137, hf⟩ := qgd hf
    have ha_138 := qSt_asc (l_now qSt_k hR (lSt_of hC (show 14 < 20 by decide)))
    refine l_callVr hC hR (mB_aps hJ (b := b_135) (v := v_136) (cap := 16) (n := ([] : List Int32).length) (f := (fun _ => 0)) (q := (ad 1014)) (t := (qtx.getD 14 [])) g_137 lSB_0.2.2.1 lSB_0.2.2.2.1 lSB_0.2.2.2.2.2) qSt_k (l_now qSt_k hR (lSt_of hC (show 14 < 20 by decide))) lp_B (fun _ _ => lp_B1) (l_recv hC hR (lX_mx 0 rfl) (ci := 1) rfl) qkj_1015 qkj_1016 qkj_1017 qkB_init qkj_1018 qhd_B_aps ⟨Nat.le_of_ble_eq_true rfl, Nat.le_of_ble_eq_true rfl⟩ hl.1 rfl (Nat.le_of_ble_eq_true rfl) dL_lines_176 ⟨by show _ ≤ 1380; omega, by show _ ≤ 55474; omega⟩ (fun _ _ => lNo_k) (fun u_139 a_140 H locs hY hR hk _ => ?_)
    obtain ⟨ea, hB_141⟩ := lSB_aps lSB_0 ha_138 g_137 hY
    rw [ea]
    obtain ⟨t_142, et_142⟩ : ∃ y : List Int32, y = ([] : List Int32) ++ (qtx.getD 14 []) := ⟨_, rfl⟩
    have hf := qnm_t hf et_142
    rw [← et_142] at hB_141
    have hR : lR D (lX (qcells G ad w0) [] []) (lX (qcells G ad w) [(b_135, .inr (1, [.ref u_139.1, .int 0, .int 0, .int (nI t_142.length)])), (u_139.1, .inl (G 5, u_139.2.1, .inl u_139.2.2)), (q111, .inr (1, [.ref u_107.1, .int 0, .int 0, .int (nI t_110.length)])), (u_107.1, .inl (G 5, u_107.2.1, .inl u_107.2.2))] (lgr G gq gr n M)) s H locs := by rw [et_142, List.length_append]; exact hR
    refine lv_aload_n hx hb dL_lines_179 rfl (lv_at hl 3 rfl) ?_
    refine lv_iconst (v := 5) hx hb dL_lines_180 (by decide) ?_
    refine l_ild hC hR (lgr_mr hj3) (j := 5) (by decide) (by decide) dL_lines_181 ?_
    obtain ⟨g_143, hf⟩ := qgd hf
    obtain ⟨g_144, hf⟩ := qgd hf
    obtain ⟨k_145, ek_145⟩ : ∃ y : Nat, y = (M j3 5).toNatClampNeg := ⟨_, rfl⟩
    have hf := qnm_t hf ek_145
    have hk_145 : k_145 < 100 := by rw [ek_145]; exact lq_lt g_143
    refine l_eqi (x := M j3 5) (y := nI k_145) (by rw [ek_145]; exact lq_nI g_143 (by decide)) ?_
    refine l_callVr hC hR (mB_api hJ (b := b_135) (v := u_139.1) (cap := u_139.2.1) (n := t_142.length) (f := u_139.2.2) (x := k_145) (o1 := o1) (o2 := o2) hk_145 g_144 hB_141.2.2.1 hB_141.2.2.2.1 hB_141.2.2.2.2.2) lDg_k (l_now lDg_k hR hE) lp_B (fun _ _ => lp_B1) (l_recv hC hR (lX_mx 0 rfl) (ci := 1) rfl) qkj_1061 qkj_1062 qkj_1063 qkB_init qkj_1064 qhd_B_api ⟨Nat.le_of_ble_eq_true rfl, Nat.le_of_ble_eq_true rfl⟩ hl.1 rfl (Nat.le_of_ble_eq_true rfl) dL_lines_182 ⟨by show _ ≤ 1380; omega, by show _ ≤ 55474; omega⟩ (fun _ _ => lNo_k) (fun u_146 a_147 H locs hY hR hk _ => ?_)
    obtain ⟨ea, hB_148⟩ := lSB_api hB_141 hk_145 g_144 hY
    rw [ea]
    obtain ⟨t_149, et_149⟩ : ∃ y : List Int32, y = t_142 ++ ldig k_145 := ⟨_, rfl⟩
    have hf := qnm_t hf et_149
    rw [← et_149] at hB_148
    have hR : lR D (lX (qcells G ad w0) [] []) (lX (qcells G ad w) [(b_135, .inr (1, [.ref u_146.1, .int 0, .int 0, .int (nI t_149.length)])), (u_146.1, .inl (G 5, u_146.2.1, .inl u_146.2.2)), (q111, .inr (1, [.ref u_107.1, .int 0, .int 0, .int (nI t_110.length)])), (u_107.1, .inl (G 5, u_107.2.1, .inl u_107.2.2))] (lgr G gq gr n M)) s H locs := by rw [et_149, List.length_append, ldig_len]; exact hR
    refine l_callVs (tx := t_149) hC hR (mB_toString hJ (b := b_135) (v := u_146.1) (cap := u_146.2.1) (n := t_149.length) (f := u_146.2.2) (tx := t_149) hB_148.2.1 hB_148.2.2.1 hB_148.2.2.2.1 hB_148.2.2.2.2.2 hB_148.1 rfl hB_148.2.2.2.2.1) lNo_k trivial lp_B lp_B1 (lad_lt hR) (l_recv hC hR (lX_mx 0 rfl) (ci := 1) rfl) qkj_1087 qkj_1088 qkj_1089 qkB_init qkj_1090 qhd_B_toString ⟨Nat.le_of_ble_eq_true rfl, Nat.le_of_ble_eq_true rfl⟩ hl.1 rfl (Nat.le_of_ble_eq_true rfl) dL_lines_185 ⟨by show _ ≤ 1380; omega, by show _ ≤ 55474; omega⟩ (fun sq_150 H locs hR hk hS_151 => ?_)
    refine lv_goto (tgt := 193) hx hb dL_lines_188 (by decide) ?_
    have hk := lK_pick (ad := ad) (H := H) (C := (qcells G ad w)) (ex := [(b_135, .inr (1, [.ref u_146.1, .int 0, .int 0, .int (nI t_149.length)])), (u_146.1, .inl (G 5, u_146.2.1, .inl u_146.2.2)), (q111, .inr (1, [.ref u_107.1, .int 0, .int 0, .int (nI t_110.length)])), (u_107.1, .inl (G 5, u_107.2.1, .inl u_107.2.2))]) (g := (lgr G gq gr n M)) [2, 3] (ex1 := [(q111, .inr (1, [.ref u_107.1, .int 0, .int 0, .int (nI t_110.length)])), (u_107.1, .inl (G 5, u_107.2.1, .inl u_107.2.2))]) (g1 := (lgr G gq gr n M)) rfl (Or.inl rfl)
    have hR := lR_pick hR [2, 3] (ex1 := [(q111, .inr (1, [.ref u_107.1, .int 0, .int 0, .int (nI t_110.length)])), (u_107.1, .inl (G 5, u_107.2.1, .inl u_107.2.2))]) (g1 := (lgr G gq gr n M)) (by decide) rfl (Or.inl rfl)
    have hS_151 := lK_on qSt_k hS_151 hk
    exact mL_lines_L193 (B := B) (S := S) hBM hSM hst hC hr hE hk7 _ _ _ _ _ _ _ _ _ _ _ _ _ _ hB_109 hj3 _ _ _ _ _ hf hR (lv_sub hl [0, 1, 2, 3] rfl) hS_151 (by omega) (by omega) (by omega) (by omega)
def fL_lines_L111  (k7 : (qMem → Nat → (Nat → Nat → Int32) → Int32 → Option (Int32 × qMem))) (w : qMem) (n : Nat) (M : Nat → Nat → Int32) (x2 : Int32) (j3 : Nat) (t_x4 : List Int32) : Option (Int32 × qMem) :=
  if ([] : List Int32).length + t_x4.length ≤ 60 then
  qnm (([] : List Int32) ++ t_x4) fun (t_103 : List Int32) =>
  if M j3 0 = 2 then
    if ([] : List Int32).length + (qtx.getD 13 []).length ≤ 60 then
    qnm (([] : List Int32) ++ (qtx.getD 13 [])) fun (t_159 : List Int32) =>
    if qin (M j3 3) 100 = true then
    if t_159.length + 2 ≤ 60 then
    qnm ((M j3 3).toNatClampNeg) fun (k_162 : Nat) =>
    qnm (t_159 ++ ldig k_162) fun (t_166 : List Int32) =>
    fL_lines_L157 k7 w n M t_103 x2 j3 t_166
    else none
    else none
    else none
  else
    fL_lines_L157 k7 w n M t_103 x2 j3 (qtx.getD 11 [])
  else none
set_option maxHeartbeats 4000000 in
set_option maxRecDepth 100000 in
theorem mL_lines_L111 {p : Program} {l : Launch} {e : Env} {s : State} {m : MethodId} {args : Array Value} {below : List Frame} {meth : Method} {c : Code} {D : va_G} {G : Nat → ClassId} {ad : Nat → Nat} {o1 : Nat} {o2 : Nat} {w0 : qMem} {rF : Int32} {wF : qMem} {k7 : (qMem → Nat → (Nat → Nat → Int32) → Int32 → Option (Int32 × qMem))} {B S : Nat} (hBM : B ≤ 1380) (hSM : S ≤ 55474) (hst : l.stackTraces = false) (hC : lCx p c cL_lines 6 s m args meth RL D G ad (lX (qcells G ad w0) [] [])) (hr : meth.sig.returnType = some .boolean) (hE : (lDg o1 o2) (lA ad (lX (qcells G ad w0) [] []) s.heap.size) s s.heap) (hk7 : ∀ (w : qMem) (n : Nat) (M : Nat → Nat → Int32) (x2 : Int32) (gq : Nat) (gr : Nat → Nat) (cc cs : Nat) (H : Heap) (locs : List Loc) (ls : Array Slot), k7 w n M x2 = some (rF, wF) → lR D (lX (qcells G ad w0) [] []) (lX (qcells G ad w) [] (lgr G gq gr n M)) s H locs → lv_has ls 6 [(0, .ref (ad 228)), (1, .ref gq), (2, .int x2)] → cc ≤ B → cs ≤ S → W p l e (qrm 10 1380 55474) s m args below meth c H locs cc cs (MQ below (lQi D (lX (qcells G ad w0) [] []) (lX (qcells G ad wF) [] []) s rF) args s 1380 55474 (va_A (lX (qcells G ad w0) [] []) s.heap.size)) (F0 m 7 ls [])) : ∀ (w : qMem) (n : Nat) (M : Nat → Nat → Int32) (x2 : Int32) (j3 : Nat) (t_x4 : List Int32) (gq : Nat) (gr : Nat → Nat) (q_x4 : Nat) (hj3 : j3 < n) (cc cs : Nat) (H : Heap) (locs : List Loc) (ls : Array Slot), fL_lines_L111 k7 w n M x2 j3 t_x4 = some (rF, wF) → lR D (lX (qcells G ad w0) [] []) (lX (qcells G ad w) [] (lgr G gq gr n M)) s H locs → lv_has ls 6 [(0, .ref (ad 228)), (1, .ref gq), (2, .int x2), (3, .ref (gr j3)), (4, .ref q_x4)] → qSt q_x4 t_x4 (lA ad (lX (qcells G ad w) [] (lgr G gq gr n M)) H.size) s H → cc + 42 ≤ B → cs + 1424 ≤ S → cc ≤ 1380 → cs ≤ 55474 → W p l e (qrm 10 1380 55474) s m args below meth c H locs cc cs (MQ below (lQi D (lX (qcells G ad w0) [] []) (lX (qcells G ad wF) [] []) s rF) args s 1380 55474 (va_A (lX (qcells G ad w0) [] []) s.heap.size)) (F0 m 111 ls []) := by
  have hx := hC.1
  have hb := hC.2.1
  have hJ := hC.2.2.2.2.2.2.2.1
  intro w n M x2 j3 t_x4 gq gr q_x4 hj3 cc cs H locs ls hf hR hl hS_x4 hcB hsB hcM hsM
  unfold fL_lines_L111 at hf
  refine l_new (Cn := RJ4) (T := TJ4) (N := 4) (ci := 1) tyJ4 tyJ4_ok hC hR qkj_870 qkB_inst qkB_init qinJ4 rfl (fs := [.null, .int 0, .int 0, .int 0]) (fun j hj => by rcases (show j = 0 ∨ j = 1 ∨ j = 2 ∨ j = 3 by omega) with rfl | rfl | rfl | rfl <;> rfl) (by show _ ≤ 1380; omega) (by show _ ≤ 55474; omega) dL_lines_111 (fun b_96 H hR hk => ?_)
  have hS_x4 := lK_on qSt_k hS_x4 hk
  refine lv_dup hx hb dL_lines_114 rfl ?_
  refine l_callIv hC hR (mB_init hJ) lNo_k trivial lp_O (fun _ => lp_OB) qkj_872 qkj_873 rfl qkB_init qkj_874 qhd_B_init ⟨Nat.le_of_ble_eq_true rfl, Nat.le_of_ble_eq_true rfl⟩ hl.1 rfl (Nat.le_of_ble_eq_true rfl) dL_lines_115 ⟨by show _ ≤ 1380; omega, by show _ ≤ 55474; omega⟩ (fun v_97 H locs _ hR hk => ?_)
  have hR : lR D (lX (qcells G ad w0) [] []) (lX (qcells G ad w) [(b_96, .inr (1, [.ref v_97, .int 0, .int 0, .int (nI ([] : List Int32).length)])), (v_97, .inl (G 5, 16, .inl (fun _ => 0)))] (lgr G gq gr n M)) s H locs := hR
  have hS_x4 := lK_on qSt_k hS_x4 hk
  refine lv_aload hx hb dL_lines_118 (lv_at hl 4 rfl) ?_
  obtain ⟨g_98, hf⟩ := qgd hf
  have ha_99 := qSt_asc hS_x4
  refine l_callVr hC hR (mB_aps hJ (b := b_96) (v := v_97) (cap := 16) (n := ([] : List Int32).length) (f := (fun _ => 0)) (q := q_x4) (t := t_x4) g_98 lSB_0.2.2.1 lSB_0.2.2.2.1 lSB_0.2.2.2.2.2) qSt_k hS_x4 lp_B (fun _ _ => lp_B1) (l_recv hC hR (lX_mx 0 rfl) (ci := 1) rfl) qkj_1015 qkj_1016 qkj_1017 qkB_init qkj_1018 qhd_B_aps ⟨Nat.le_of_ble_eq_true rfl, Nat.le_of_ble_eq_true rfl⟩ hl.1 rfl (Nat.le_of_ble_eq_true rfl) dL_lines_120 ⟨by show _ ≤ 1380; omega, by show _ ≤ 55474; omega⟩ (fun _ _ => lNo_k) (fun u_100 a_101 H locs hY hR hk _ => ?_)
  obtain ⟨ea, hB_102⟩ := lSB_aps lSB_0 ha_99 g_98 hY
  rw [ea]
  obtain ⟨t_103, et_103⟩ : ∃ y : List Int32, y = ([] : List Int32) ++ t_x4 := ⟨_, rfl⟩
  have hf := qnm_t hf et_103
  rw [← et_103] at hB_102
  have hR : lR D (lX (qcells G ad w0) [] []) (lX (qcells G ad w) [(b_96, .inr (1, [.ref u_100.1, .int 0, .int 0, .int (nI t_103.length)])), (u_100.1, .inl (G 5, u_100.2.1, .inl u_100.2.2))] (lgr G gq gr n M)) s H locs := by rw [et_103, List.length_append]; exact hR
  have hS_x4 := lK_on qSt_k hS_x4 hk
  have hS_x4 : qSt q_x4 t_x4 (lA ad (lX (qcells G ad w) [(b_96, .inr (1, [.ref u_100.1, .int 0, .int 0, .int (nI t_103.length)])), (u_100.1, .inl (G 5, u_100.2.1, .inl u_100.2.2))] (lgr G gq gr n M)) H.size) s H := by rw [et_103, List.length_append]; exact hS_x4
  refine lv_aload_n hx hb dL_lines_123 rfl (lv_at hl 3 rfl) ?_
  refine lv_iconst (v := 0) hx hb dL_lines_124 (by decide) ?_
  refine l_ild hC hR (lgr_mr hj3) (j := 0) (by decide) (by decide) dL_lines_125 ?_
  refine lv_iconst (v := 2) hx hb dL_lines_126 (by decide) ?_
  refine lv_icmp_ne (tgt := 155) hx hb dL_lines_127 (by decide) (fun c__104 => ?_) (fun c__104 => ?_)
  · have hf := qif_f hf c__104
    refine va_ldcS (q := ad 1011) hx hb hC.2.2.2.1 (hC.2.2.2.2.2.2.2.2.1.2.1 ("QuakeRehearsalLaw", 255, "", 11) (by decide +kernel)) dL_lines_155 ?_
    exact mL_lines_L157 (B := B) (S := S) hBM hSM hst hC hr hE hk7 _ _ _ _ _ _ _ _ _ _ _ _ _ _ hB_102 hj3 _ _ _ _ _ hf hR (lv_sub hl [0, 1, 2, 3] rfl) (l_now qSt_k hR (lSt_of hC (show 11 < 20 by decide))) (by omega) (by omega) (by omega) (by omega)
  · have hf := qif_t hf c__104
    refine l_new (Cn := RJ4) (T := TJ4) (N := 4) (ci := 1) tyJ4 tyJ4_ok hC hR qkj_870 qkB_inst qkB_init qinJ4 rfl (fs := [.null, .int 0, .int 0, .int 0]) (fun j hj => by rcases (show j = 0 ∨ j = 1 ∨ j = 2 ∨ j = 3 by omega) with rfl | rfl | rfl | rfl <;> rfl) (by show _ ≤ 1380; omega) (by show _ ≤ 55474; omega) dL_lines_130 (fun b_152 H hR hk => ?_)
    have hS_x4 := lK_on qSt_k hS_x4 hk
    refine lv_dup hx hb dL_lines_133 rfl ?_
    refine l_callIv hC hR (mB_init hJ) lNo_k trivial lp_O (fun _ => lp_OB) qkj_872 qkj_873 rfl qkB_init qkj_874 qhd_B_init ⟨Nat.le_of_ble_eq_true rfl, Nat.le_of_ble_eq_true rfl⟩ hl.1 rfl (Nat.le_of_ble_eq_true rfl) dL_lines_134 ⟨by show _ ≤ 1380; omega, by show _ ≤ 55474; omega⟩ (fun v_153 H locs _ hR hk => ?_)
    have hR : lR D (lX (qcells G ad w0) [] []) (lX (qcells G ad w) [(b_152, .inr (1, [.ref v_153, .int 0, .int 0, .int (nI ([] : List Int32).length)])), (v_153, .inl (G 5, 16, .inl (fun _ => 0))), (b_96, .inr (1, [.ref u_100.1, .int 0, .int 0, .int (nI t_103.length)])), (u_100.1, .inl (G 5, u_100.2.1, .inl u_100.2.2))] (lgr G gq gr n M)) s H locs := hR
    have hS_x4 := lK_on qSt_k hS_x4 hk
    refine va_ldcSW (q := ad 1013) hx hb hC.2.2.2.1 (hC.2.2.2.2.2.2.2.2.1.2.1 ("QuakeRehearsalLaw", 269, "~", 13) (by decide +kernel)) dL_lines_137 ?_
    obtain ⟨g_154, hf⟩ := qgd hf
    have ha_155 := qSt_asc (l_now qSt_k hR (lSt_of hC (show 13 < 20 by decide)))
    refine l_callVr hC hR (mB_aps hJ (b := b_152) (v := v_153) (cap := 16) (n := ([] : List Int32).length) (f := (fun _ => 0)) (q := (ad 1013)) (t := (qtx.getD 13 [])) g_154 lSB_0.2.2.1 lSB_0.2.2.2.1 lSB_0.2.2.2.2.2) qSt_k (l_now qSt_k hR (lSt_of hC (show 13 < 20 by decide))) lp_B (fun _ _ => lp_B1) (l_recv hC hR (lX_mx 0 rfl) (ci := 1) rfl) qkj_1015 qkj_1016 qkj_1017 qkB_init qkj_1018 qhd_B_aps ⟨Nat.le_of_ble_eq_true rfl, Nat.le_of_ble_eq_true rfl⟩ hl.1 rfl (Nat.le_of_ble_eq_true rfl) dL_lines_140 ⟨by show _ ≤ 1380; omega, by show _ ≤ 55474; omega⟩ (fun _ _ => lNo_k) (fun u_156 a_157 H locs hY hR hk _ => ?_)
    obtain ⟨ea, hB_158⟩ := lSB_aps lSB_0 ha_155 g_154 hY
    rw [ea]
    obtain ⟨t_159, et_159⟩ : ∃ y : List Int32, y = ([] : List Int32) ++ (qtx.getD 13 []) := ⟨_, rfl⟩
    have hf := qnm_t hf et_159
    rw [← et_159] at hB_158
    have hR : lR D (lX (qcells G ad w0) [] []) (lX (qcells G ad w) [(b_152, .inr (1, [.ref u_156.1, .int 0, .int 0, .int (nI t_159.length)])), (u_156.1, .inl (G 5, u_156.2.1, .inl u_156.2.2)), (b_96, .inr (1, [.ref u_100.1, .int 0, .int 0, .int (nI t_103.length)])), (u_100.1, .inl (G 5, u_100.2.1, .inl u_100.2.2))] (lgr G gq gr n M)) s H locs := by rw [et_159, List.length_append]; exact hR
    have hS_x4 := lK_on qSt_k hS_x4 hk
    have hS_x4 : qSt q_x4 t_x4 (lA ad (lX (qcells G ad w) [(b_152, .inr (1, [.ref u_156.1, .int 0, .int 0, .int (nI t_159.length)])), (u_156.1, .inl (G 5, u_156.2.1, .inl u_156.2.2)), (b_96, .inr (1, [.ref u_100.1, .int 0, .int 0, .int (nI t_103.length)])), (u_100.1, .inl (G 5, u_100.2.1, .inl u_100.2.2))] (lgr G gq gr n M)) H.size) s H := by rw [et_159, List.length_append]; exact hS_x4
    refine lv_aload_n hx hb dL_lines_143 rfl (lv_at hl 3 rfl) ?_
    refine lv_iconst (v := 3) hx hb dL_lines_144 (by decide) ?_
    refine l_ild hC hR (lgr_mr hj3) (j := 3) (by decide) (by decide) dL_lines_145 ?_
    obtain ⟨g_160, hf⟩ := qgd hf
    obtain ⟨g_161, hf⟩ := qgd hf
    obtain ⟨k_162, ek_162⟩ : ∃ y : Nat, y = (M j3 3).toNatClampNeg := ⟨_, rfl⟩
    have hf := qnm_t hf ek_162
    have hk_162 : k_162 < 100 := by rw [ek_162]; exact lq_lt g_160
    refine l_eqi (x := M j3 3) (y := nI k_162) (by rw [ek_162]; exact lq_nI g_160 (by decide)) ?_
    refine l_callVr hC hR (mB_api hJ (b := b_152) (v := u_156.1) (cap := u_156.2.1) (n := t_159.length) (f := u_156.2.2) (x := k_162) (o1 := o1) (o2 := o2) hk_162 g_161 hB_158.2.2.1 hB_158.2.2.2.1 hB_158.2.2.2.2.2) lDg_k (l_now lDg_k hR hE) lp_B (fun _ _ => lp_B1) (l_recv hC hR (lX_mx 0 rfl) (ci := 1) rfl) qkj_1061 qkj_1062 qkj_1063 qkB_init qkj_1064 qhd_B_api ⟨Nat.le_of_ble_eq_true rfl, Nat.le_of_ble_eq_true rfl⟩ hl.1 rfl (Nat.le_of_ble_eq_true rfl) dL_lines_146 ⟨by show _ ≤ 1380; omega, by show _ ≤ 55474; omega⟩ (fun _ _ => lNo_k) (fun u_163 a_164 H locs hY hR hk _ => ?_)
    obtain ⟨ea, hB_165⟩ := lSB_api hB_158 hk_162 g_161 hY
    rw [ea]
    obtain ⟨t_166, et_166⟩ : ∃ y : List Int32, y = t_159 ++ ldig k_162 := ⟨_, rfl⟩
    have hf := qnm_t hf et_166
    rw [← et_166] at hB_165
    have hR : lR D (lX (qcells G ad w0) [] []) (lX (qcells G ad w) [(b_152, .inr (1, [.ref u_163.1, .int 0, .int 0, .int (nI t_166.length)])), (u_163.1, .inl (G 5, u_163.2.1, .inl u_163.2.2)), (b_96, .inr (1, [.ref u_100.1, .int 0, .int 0, .int (nI t_103.length)])), (u_100.1, .inl (G 5, u_100.2.1, .inl u_100.2.2))] (lgr G gq gr n M)) s H locs := by rw [et_166, List.length_append, ldig_len]; exact hR
    have hS_x4 := lK_on qSt_k hS_x4 hk
    have hS_x4 : qSt q_x4 t_x4 (lA ad (lX (qcells G ad w) [(b_152, .inr (1, [.ref u_163.1, .int 0, .int 0, .int (nI t_166.length)])), (u_163.1, .inl (G 5, u_163.2.1, .inl u_163.2.2)), (b_96, .inr (1, [.ref u_100.1, .int 0, .int 0, .int (nI t_103.length)])), (u_100.1, .inl (G 5, u_100.2.1, .inl u_100.2.2))] (lgr G gq gr n M)) H.size) s H := by rw [et_166, List.length_append, ldig_len]; exact hS_x4
    refine l_callVs (tx := t_166) hC hR (mB_toString hJ (b := b_152) (v := u_163.1) (cap := u_163.2.1) (n := t_166.length) (f := u_163.2.2) (tx := t_166) hB_165.2.1 hB_165.2.2.1 hB_165.2.2.2.1 hB_165.2.2.2.2.2 hB_165.1 rfl hB_165.2.2.2.2.1) lNo_k trivial lp_B lp_B1 (lad_lt hR) (l_recv hC hR (lX_mx 0 rfl) (ci := 1) rfl) qkj_1087 qkj_1088 qkj_1089 qkB_init qkj_1090 qhd_B_toString ⟨Nat.le_of_ble_eq_true rfl, Nat.le_of_ble_eq_true rfl⟩ hl.1 rfl (Nat.le_of_ble_eq_true rfl) dL_lines_149 ⟨by show _ ≤ 1380; omega, by show _ ≤ 55474; omega⟩ (fun sq_167 H locs hR hk hS_168 => ?_)
    have hS_x4 := lK_on qSt_k hS_x4 hk
    refine lv_goto (tgt := 157) hx hb dL_lines_152 (by decide) ?_
    have hk := lK_pick (ad := ad) (H := H) (C := (qcells G ad w)) (ex := [(b_152, .inr (1, [.ref u_163.1, .int 0, .int 0, .int (nI t_166.length)])), (u_163.1, .inl (G 5, u_163.2.1, .inl u_163.2.2)), (b_96, .inr (1, [.ref u_100.1, .int 0, .int 0, .int (nI t_103.length)])), (u_100.1, .inl (G 5, u_100.2.1, .inl u_100.2.2))]) (g := (lgr G gq gr n M)) [2, 3] (ex1 := [(b_96, .inr (1, [.ref u_100.1, .int 0, .int 0, .int (nI t_103.length)])), (u_100.1, .inl (G 5, u_100.2.1, .inl u_100.2.2))]) (g1 := (lgr G gq gr n M)) rfl (Or.inl rfl)
    have hR := lR_pick hR [2, 3] (ex1 := [(b_96, .inr (1, [.ref u_100.1, .int 0, .int 0, .int (nI t_103.length)])), (u_100.1, .inl (G 5, u_100.2.1, .inl u_100.2.2))]) (g1 := (lgr G gq gr n M)) (by decide) rfl (Or.inl rfl)
    have hS_x4 := lK_on qSt_k hS_x4 hk
    have hS_168 := lK_on qSt_k hS_168 hk
    exact mL_lines_L157 (B := B) (S := S) hBM hSM hst hC hr hE hk7 _ _ _ _ _ _ _ _ _ _ _ _ _ _ hB_102 hj3 _ _ _ _ _ hf hR (lv_sub hl [0, 1, 2, 3] rfl) hS_168 (by omega) (by omega) (by omega) (by omega)
def fL_lines_L68  (k7 : (qMem → Nat → (Nat → Nat → Int32) → Int32 → Option (Int32 × qMem))) : Nat → qMem → Nat → (Nat → Nat → Int32) → Int32 → Nat → List Int32 → Int32 → Option (Int32 × qMem)
  | 0, _, _, _, _, _, _, _ => none
  | k + 1, w, n, M, x2, j3, t_x4, x5 =>
    if M j3 0 = 1 then
      if M j3 3 ≤ x5 then
        fL_lines_L111 k7 w n M x2 j3 t_x4
      else
        if ([] : List Int32).length + t_x4.length ≤ 60 then
        qnm (([] : List Int32) ++ t_x4) fun (t_177 : List Int32) =>
        if qin 39 128 = true then
        if t_177.length + 1 ≤ 60 then
        qnm (((39 : Int32)).toNatClampNeg) fun (k_180 : Nat) =>
        qnm (t_177 ++ [nI k_180]) fun (t_184 : List Int32) =>
        qnm (x5 + 1) fun (x_187 : Int32) =>
        fL_lines_L68 k7 k w n M x2 j3 t_184 x_187
        else none
        else none
        else none
    else
      fL_lines_L111 k7 w n M x2 j3 t_x4
set_option maxHeartbeats 4000000 in
set_option maxRecDepth 100000 in
theorem mL_lines_L68 {p : Program} {l : Launch} {e : Env} {s : State} {m : MethodId} {args : Array Value} {below : List Frame} {meth : Method} {c : Code} {D : va_G} {G : Nat → ClassId} {ad : Nat → Nat} {o1 : Nat} {o2 : Nat} {w0 : qMem} {rF : Int32} {wF : qMem} {k7 : (qMem → Nat → (Nat → Nat → Int32) → Int32 → Option (Int32 × qMem))} {B S : Nat} (hBM : B ≤ 1380) (hSM : S ≤ 55474) (hst : l.stackTraces = false) (hC : lCx p c cL_lines 6 s m args meth RL D G ad (lX (qcells G ad w0) [] [])) (hr : meth.sig.returnType = some .boolean) (hE : (lDg o1 o2) (lA ad (lX (qcells G ad w0) [] []) s.heap.size) s s.heap) (hk7 : ∀ (w : qMem) (n : Nat) (M : Nat → Nat → Int32) (x2 : Int32) (gq : Nat) (gr : Nat → Nat) (cc cs : Nat) (H : Heap) (locs : List Loc) (ls : Array Slot), k7 w n M x2 = some (rF, wF) → lR D (lX (qcells G ad w0) [] []) (lX (qcells G ad w) [] (lgr G gq gr n M)) s H locs → lv_has ls 6 [(0, .ref (ad 228)), (1, .ref gq), (2, .int x2)] → cc ≤ B → cs ≤ S → W p l e (qrm 10 1380 55474) s m args below meth c H locs cc cs (MQ below (lQi D (lX (qcells G ad w0) [] []) (lX (qcells G ad wF) [] []) s rF) args s 1380 55474 (va_A (lX (qcells G ad w0) [] []) s.heap.size)) (F0 m 7 ls [])) : ∀ (k : Nat), ∀ (w : qMem) (n : Nat) (M : Nat → Nat → Int32) (x2 : Int32) (j3 : Nat) (t_x4 : List Int32) (x5 : Int32) (gq : Nat) (gr : Nat → Nat) (q_x4 : Nat) (hj3 : j3 < n) (cc cs : Nat) (H : Heap) (locs : List Loc) (ls : Array Slot), fL_lines_L68 k7 k w n M x2 j3 t_x4 x5 = some (rF, wF) → lR D (lX (qcells G ad w0) [] []) (lX (qcells G ad w) [] (lgr G gq gr n M)) s H locs → lv_has ls 6 [(0, .ref (ad 228)), (1, .ref gq), (2, .int x2), (3, .ref (gr j3)), (4, .ref q_x4), (5, .int x5)] → qSt q_x4 t_x4 (lA ad (lX (qcells G ad w) [] (lgr G gq gr n M)) H.size) s H → cc + 6 * k + 42 ≤ B → cs + 344 * k + 1424 ≤ S → cc + 6 * k ≤ 1380 → cs + 344 * k ≤ 55474 → W p l e (qrm 10 1380 55474) s m args below meth c H locs cc cs (MQ below (lQi D (lX (qcells G ad w0) [] []) (lX (qcells G ad wF) [] []) s rF) args s 1380 55474 (va_A (lX (qcells G ad w0) [] []) s.heap.size)) (F0 m 68 ls []) := by
  have hx := hC.1
  have hb := hC.2.1
  have hJ := hC.2.2.2.2.2.2.2.1
  intro k
  induction k with
  | zero => intro w n M x2 j3 t_x4 x5 gq gr q_x4 hj3 cc cs H locs ls hf; exact nomatch (show (none : Option (Int32 × qMem)) = some _ from hf)
  | succ k ih =>
    intro w n M x2 j3 t_x4 x5 gq gr q_x4 hj3 cc cs H locs ls hf hR hl hS_x4 hcB hsB hcM hsM
    rw [fL_lines_L68] at hf
    refine lv_aload_n hx hb dL_lines_68 rfl (lv_at hl 3 rfl) ?_
    refine lv_iconst (v := 0) hx hb dL_lines_69 (by decide) ?_
    refine l_ild hC hR (lgr_mr hj3) (j := 0) (by decide) (by decide) dL_lines_70 ?_
    refine lv_iconst (v := 1) hx hb dL_lines_71 (by decide) ?_
    refine lv_icmp_ne (tgt := 111) hx hb dL_lines_72 (by decide) (fun c__95 => ?_) (fun c__95 => ?_)
    · have hf := qif_f hf c__95
      exact mL_lines_L111 (B := B) (S := S) hBM hSM hst hC hr hE hk7 _ _ _ _ _ _ _ _ _ hj3 _ _ _ _ _ hf hR (lv_sub hl [0, 1, 2, 3, 4] rfl) hS_x4 (by omega) (by omega) (by omega) (by omega)
    · have hf := qif_t hf c__95
      refine lv_iload hx hb dL_lines_75 (lv_at hl 5 rfl) ?_
      refine lv_aload_n hx hb dL_lines_77 rfl (lv_at hl 3 rfl) ?_
      refine lv_iconst (v := 3) hx hb dL_lines_78 (by decide) ?_
      refine l_ild hC hR (lgr_mr hj3) (j := 3) (by decide) (by decide) dL_lines_79 ?_
      refine lv_icmp_ge (tgt := 111) hx hb dL_lines_80 (by decide) (fun c__169 => ?_) (fun c__169 => ?_)
      · have hf := qif_t hf c__169
        exact mL_lines_L111 (B := B) (S := S) hBM hSM hst hC hr hE hk7 _ _ _ _ _ _ _ _ _ hj3 _ _ _ _ _ hf hR (lv_sub hl [0, 1, 2, 3, 4] rfl) hS_x4 (by omega) (by omega) (by omega) (by omega)
      · have hf := qif_f hf c__169
        refine l_new (Cn := RJ4) (T := TJ4) (N := 4) (ci := 1) tyJ4 tyJ4_ok hC hR qkj_870 qkB_inst qkB_init qinJ4 rfl (fs := [.null, .int 0, .int 0, .int 0]) (fun j hj => by rcases (show j = 0 ∨ j = 1 ∨ j = 2 ∨ j = 3 by omega) with rfl | rfl | rfl | rfl <;> rfl) (by show _ ≤ 1380; omega) (by show _ ≤ 55474; omega) dL_lines_83 (fun b_170 H hR hk => ?_)
        have hS_x4 := lK_on qSt_k hS_x4 hk
        refine lv_dup hx hb dL_lines_86 rfl ?_
        refine l_callIv hC hR (mB_init hJ) lNo_k trivial lp_O (fun _ => lp_OB) qkj_872 qkj_873 rfl qkB_init qkj_874 qhd_B_init ⟨Nat.le_of_ble_eq_true rfl, Nat.le_of_ble_eq_true rfl⟩ hl.1 rfl (Nat.le_of_ble_eq_true rfl) dL_lines_87 ⟨by show _ ≤ 1380; omega, by show _ ≤ 55474; omega⟩ (fun v_171 H locs _ hR hk => ?_)
        have hR : lR D (lX (qcells G ad w0) [] []) (lX (qcells G ad w) [(b_170, .inr (1, [.ref v_171, .int 0, .int 0, .int (nI ([] : List Int32).length)])), (v_171, .inl (G 5, 16, .inl (fun _ => 0)))] (lgr G gq gr n M)) s H locs := hR
        have hS_x4 := lK_on qSt_k hS_x4 hk
        refine lv_aload hx hb dL_lines_90 (lv_at hl 4 rfl) ?_
        obtain ⟨g_172, hf⟩ := qgd hf
        have ha_173 := qSt_asc hS_x4
        refine l_callVr hC hR (mB_aps hJ (b := b_170) (v := v_171) (cap := 16) (n := ([] : List Int32).length) (f := (fun _ => 0)) (q := q_x4) (t := t_x4) g_172 lSB_0.2.2.1 lSB_0.2.2.2.1 lSB_0.2.2.2.2.2) qSt_k hS_x4 lp_B (fun _ _ => lp_B1) (l_recv hC hR (lX_mx 0 rfl) (ci := 1) rfl) qkj_1015 qkj_1016 qkj_1017 qkB_init qkj_1018 qhd_B_aps ⟨Nat.le_of_ble_eq_true rfl, Nat.le_of_ble_eq_true rfl⟩ hl.1 rfl (Nat.le_of_ble_eq_true rfl) dL_lines_92 ⟨by show _ ≤ 1380; omega, by show _ ≤ 55474; omega⟩ (fun _ _ => lNo_k) (fun u_174 a_175 H locs hY hR hk _ => ?_)
        obtain ⟨ea, hB_176⟩ := lSB_aps lSB_0 ha_173 g_172 hY
        rw [ea]
        obtain ⟨t_177, et_177⟩ : ∃ y : List Int32, y = ([] : List Int32) ++ t_x4 := ⟨_, rfl⟩
        have hf := qnm_t hf et_177
        rw [← et_177] at hB_176
        have hR : lR D (lX (qcells G ad w0) [] []) (lX (qcells G ad w) [(b_170, .inr (1, [.ref u_174.1, .int 0, .int 0, .int (nI t_177.length)])), (u_174.1, .inl (G 5, u_174.2.1, .inl u_174.2.2))] (lgr G gq gr n M)) s H locs := by rw [et_177, List.length_append]; exact hR
        have hS_x4 := lK_on qSt_k hS_x4 hk
        have hS_x4 : qSt q_x4 t_x4 (lA ad (lX (qcells G ad w) [(b_170, .inr (1, [.ref u_174.1, .int 0, .int 0, .int (nI t_177.length)])), (u_174.1, .inl (G 5, u_174.2.1, .inl u_174.2.2))] (lgr G gq gr n M)) H.size) s H := by rw [et_177, List.length_append]; exact hS_x4
        refine lv_bipush (v := 39) hx hb dL_lines_95 (by decide) ?_
        obtain ⟨g_178, hf⟩ := qgd hf
        obtain ⟨g_179, hf⟩ := qgd hf
        obtain ⟨k_180, ek_180⟩ : ∃ y : Nat, y = ((39 : Int32)).toNatClampNeg := ⟨_, rfl⟩
        have hf := qnm_t hf ek_180
        have hk_180 : k_180 < 128 := by rw [ek_180]; exact lq_lt g_178
        refine l_eqi (x := 39) (y := nI k_180) (by rw [ek_180]; exact lq_nI g_178 (by decide)) ?_
        refine l_callVr hC hR (mB_apc hJ (b := b_170) (v := u_174.1) (cap := u_174.2.1) (n := t_177.length) (f := u_174.2.2) (k := k_180) g_179 hB_176.2.2.1 hB_176.2.2.2.1 hB_176.2.2.2.2.2 hk_180) lNo_k trivial lp_B (fun _ _ => lp_B1) (l_recv hC hR (lX_mx 0 rfl) (ci := 1) rfl) qkj_941 qkj_942 qkj_943 qkB_init qkj_944 qhd_B_apc ⟨Nat.le_of_ble_eq_true rfl, Nat.le_of_ble_eq_true rfl⟩ hl.1 rfl (Nat.le_of_ble_eq_true rfl) dL_lines_97 ⟨by show _ ≤ 1380; omega, by show _ ≤ 55474; omega⟩ (fun _ _ => lNo_k) (fun u_181 a_182 H locs hY hR hk _ => ?_)
        obtain ⟨ea, hB_183⟩ := lSB_apc hB_176 hk_180 g_179 hY
        rw [ea]
        obtain ⟨t_184, et_184⟩ : ∃ y : List Int32, y = t_177 ++ [nI k_180] := ⟨_, rfl⟩
        have hf := qnm_t hf et_184
        rw [← et_184] at hB_183
        have hR : lR D (lX (qcells G ad w0) [] []) (lX (qcells G ad w) [(b_170, .inr (1, [.ref u_181.1, .int 0, .int 0, .int (nI t_184.length)])), (u_181.1, .inl (G 5, u_181.2.1, .inl u_181.2.2))] (lgr G gq gr n M)) s H locs := by rw [et_184, List.length_append]; exact hR
        have hS_x4 := lK_on qSt_k hS_x4 hk
        have hS_x4 : qSt q_x4 t_x4 (lA ad (lX (qcells G ad w) [(b_170, .inr (1, [.ref u_181.1, .int 0, .int 0, .int (nI t_184.length)])), (u_181.1, .inl (G 5, u_181.2.1, .inl u_181.2.2))] (lgr G gq gr n M)) H.size) s H := by rw [et_184, List.length_append]; exact hS_x4
        refine l_callVs (tx := t_184) hC hR (mB_toString hJ (b := b_170) (v := u_181.1) (cap := u_181.2.1) (n := t_184.length) (f := u_181.2.2) (tx := t_184) hB_183.2.1 hB_183.2.2.1 hB_183.2.2.2.1 hB_183.2.2.2.2.2 hB_183.1 rfl hB_183.2.2.2.2.1) lNo_k trivial lp_B lp_B1 (lad_lt hR) (l_recv hC hR (lX_mx 0 rfl) (ci := 1) rfl) qkj_1087 qkj_1088 qkj_1089 qkB_init qkj_1090 qhd_B_toString ⟨Nat.le_of_ble_eq_true rfl, Nat.le_of_ble_eq_true rfl⟩ hl.1 rfl (Nat.le_of_ble_eq_true rfl) dL_lines_100 ⟨by show _ ≤ 1380; omega, by show _ ≤ 55474; omega⟩ (fun sq_185 H locs hR hk hS_186 => ?_)
        have hS_x4 := lK_on qSt_k hS_x4 hk
        refine lv_astore (lv' := [(4, .ref sq_185), (0, .ref (ad 228)), (1, .ref gq), (2, .int x2), (3, .ref (gr j3)), (5, .int x5)]) hx hb dL_lines_103 hl (by decide) rfl (fun ls hl => ?_)
        obtain ⟨x_187, ex_187⟩ : ∃ y : Int32, y = x5 + 1 := ⟨_, rfl⟩
        have hf := qnm_t hf ex_187
        refine lv_iinc (v := x_187) (lv' := [(5, .int x_187), (4, .ref sq_185), (0, .ref (ad 228)), (1, .ref gq), (2, .int x2), (3, .ref (gr j3))]) hx hb dL_lines_105 hl (k := 5) rfl (by rw [ex_187]; rfl) (by decide) rfl (fun ls hl => ?_)
        refine lv_goto (tgt := 68) hx hb dL_lines_108 (by decide) ?_
        have hk := lK_pick (ad := ad) (H := H) (C := (qcells G ad w)) (ex := [(b_170, .inr (1, [.ref u_181.1, .int 0, .int 0, .int (nI t_184.length)])), (u_181.1, .inl (G 5, u_181.2.1, .inl u_181.2.2))]) (g := (lgr G gq gr n M)) [] (ex1 := []) (g1 := (lgr G gq gr n M)) rfl (Or.inl rfl)
        have hR := lR_pick hR [] (ex1 := []) (g1 := (lgr G gq gr n M)) (by decide) rfl (Or.inl rfl)
        have hS_186 := lK_on qSt_k hS_186 hk
        exact ih _ _ _ _ _ _ _ _ _ _ hj3 _ _ _ _ _ hf hR (lv_sub hl [2, 3, 4, 5, 1, 0] rfl) hS_186 (by omega) (by omega) (by omega) (by omega)
def fL_lines_L7   : Nat → qMem → Nat → (Nat → Nat → Int32) → Int32 → Option (Int32 × qMem)
  | 0, _, _, _, _ => none
  | k + 1, w, n, M, x2 =>
    if Int32.ofNat n ≤ x2 then
      fL_lines_L246 10 w n M (qtx.getD 11 []) 0
    else
      if qin x2 n = true then
      qnm ((x2).toNatClampNeg) fun (j_56 : Nat) =>
      if qin ((M j_56 0) - 1) (qtx.getD 10 []).length = true then
      if qin ((qtx.getD 10 []).getD ((M j_56 0) - 1).toNatClampNeg 0) 128 = true then
      if ([] : List Int32).length + 1 ≤ 60 then
      qnm (((qtx.getD 10 []).getD ((M j_56 0) - 1).toNatClampNeg 0).toNatClampNeg) fun (k_62 : Nat) =>
      qnm (([] : List Int32) ++ [nI k_62]) fun (t_66 : List Int32) =>
      if t_66.length + (qtx.getD 11 []).length ≤ 60 then
      qnm (t_66 ++ (qtx.getD 11 [])) fun (t_72 : List Int32) =>
      if qin (M j_56 1) 100 = true then
      if t_72.length + 2 ≤ 60 then
      qnm ((M j_56 1).toNatClampNeg) fun (k_75 : Nat) =>
      qnm (t_72 ++ ldig k_75) fun (t_79 : List Int32) =>
      if t_79.length + (qtx.getD 12 []).length ≤ 60 then
      qnm (t_79 ++ (qtx.getD 12 [])) fun (t_85 : List Int32) =>
      if qin (M j_56 2) 100 = true then
      if t_85.length + 2 ≤ 60 then
      qnm ((M j_56 2).toNatClampNeg) fun (k_88 : Nat) =>
      qnm (t_85 ++ ldig k_88) fun (t_92 : List Int32) =>
      fL_lines_L68 (fL_lines_L7 k) 5 w n M x2 j_56 t_92 0
      else none
      else none
      else none
      else none
      else none
      else none
      else none
      else none
      else none
      else none
set_option maxHeartbeats 4000000 in
set_option maxRecDepth 100000 in
theorem mL_lines_L7 {p : Program} {l : Launch} {e : Env} {s : State} {m : MethodId} {args : Array Value} {below : List Frame} {meth : Method} {c : Code} {D : va_G} {G : Nat → ClassId} {ad : Nat → Nat} {o1 : Nat} {o2 : Nat} {w0 : qMem} {rF : Int32} {wF : qMem} (hst : l.stackTraces = false) (hC : lCx p c cL_lines 6 s m args meth RL D G ad (lX (qcells G ad w0) [] [])) (hr : meth.sig.returnType = some .boolean) (hE : (lDg o1 o2) (lA ad (lX (qcells G ad w0) [] []) s.heap.size) s s.heap) : ∀ (k : Nat), ∀ (w : qMem) (n : Nat) (M : Nat → Nat → Int32) (x2 : Int32) (gq : Nat) (gr : Nat → Nat) (cc cs : Nat) (H : Heap) (locs : List Loc) (ls : Array Slot), fL_lines_L7 k w n M x2 = some (rF, wF) → lR D (lX (qcells G ad w0) [] []) (lX (qcells G ad w) [] (lgr G gq gr n M)) s H locs → lv_has ls 6 [(0, .ref (ad 228)), (1, .ref gq), (2, .int x2)] → cc + 81 * k + 105 ≤ 1380 → cs + 3878 * k + 3710 ≤ 55474 → W p l e (qrm 10 1380 55474) s m args below meth c H locs cc cs (MQ below (lQi D (lX (qcells G ad w0) [] []) (lX (qcells G ad wF) [] []) s rF) args s 1380 55474 (va_A (lX (qcells G ad w0) [] []) s.heap.size)) (F0 m 7 ls []) := by
  have hx := hC.1
  have hb := hC.2.1
  have hJ := hC.2.2.2.2.2.2.2.1
  intro k
  induction k with
  | zero => intro w n M x2 gq gr cc cs H locs ls hf; exact nomatch (show (none : Option (Int32 × qMem)) = some _ from hf)
  | succ k ih =>
    intro w n M x2 gq gr cc cs H locs ls hf hR hl hcM hsM
    rw [fL_lines_L7] at hf
    refine lv_iload_n hx hb dL_lines_7 rfl (lv_at hl 2 rfl) ?_
    refine lv_aload_n hx hb dL_lines_8 rfl (lv_at hl 1 rfl) ?_
    refine l_alen hC hR lgr_m0 rfl rfl dL_lines_9 ?_
    refine lv_icmp_ge (tgt := 241) hx hb dL_lines_10 (by decide) (fun c__7 => ?_) (fun c__7 => ?_)
    · have hf := qif_t hf c__7
      refine va_ldcS (q := ad 1011) hx hb hC.2.2.2.1 (hC.2.2.2.2.2.2.2.2.1.2.1 ("QuakeRehearsalLaw", 255, "", 11) (by decide +kernel)) dL_lines_241 ?_
      refine lv_astore_n (lv' := [(2, .ref (ad 1011)), (0, .ref (ad 228)), (1, .ref gq)]) hx hb dL_lines_243 rfl hl (by decide) rfl (fun ls hl => ?_)
      refine lv_iconst (v := 0) hx hb dL_lines_244 (by decide) ?_
      refine lv_istore_n (lv' := [(3, .int 0), (2, .ref (ad 1011)), (0, .ref (ad 228)), (1, .ref gq)]) hx hb dL_lines_245 rfl hl (by decide) rfl (fun ls hl => ?_)
      exact mL_lines_L246 hst hC hr hE 10 _ _ _ _ _ _ _ _ _ _ _ _ _ hf hR (lv_sub hl [2, 3, 1, 0] rfl) (l_now qSt_k hR (lSt_of hC (show 11 < 20 by decide))) (by omega) (by omega)
    · have hf := qif_f hf c__7
      refine lv_aload_n hx hb dL_lines_13 rfl (lv_at hl 1 rfl) ?_
      refine lv_iload_n hx hb dL_lines_14 rfl (lv_at hl 2 rfl) ?_
      obtain ⟨g_55, hf⟩ := qgd hf
      obtain ⟨j_56, ej_56⟩ : ∃ y : Nat, y = (x2).toNatClampNeg := ⟨_, rfl⟩
      have hf := qnm_t hf ej_56
      have hj_56 : j_56 < n := by rw [ej_56]; exact lq_lt g_55
      refine l_ald hC hR lgr_m0 (j := j_56) g_55 ej_56.symm dL_lines_15 ?_
      refine lv_astore_n (lv' := [(3, .ref (gr j_56)), (0, .ref (ad 228)), (1, .ref gq), (2, .int x2)]) hx hb dL_lines_16 rfl hl (by decide) rfl (fun ls hl => ?_)
      refine l_new (Cn := RJ4) (T := TJ4) (N := 4) (ci := 1) tyJ4 tyJ4_ok hC hR qkj_870 qkB_inst qkB_init qinJ4 rfl (fs := [.null, .int 0, .int 0, .int 0]) (fun j hj => by rcases (show j = 0 ∨ j = 1 ∨ j = 2 ∨ j = 3 by omega) with rfl | rfl | rfl | rfl <;> rfl) (by show _ ≤ 1380; omega) (by show _ ≤ 55474; omega) dL_lines_17 (fun b_57 H hR hk => ?_)
      refine lv_dup hx hb dL_lines_20 rfl ?_
      refine l_callIv hC hR (mB_init hJ) lNo_k trivial lp_O (fun _ => lp_OB) qkj_872 qkj_873 rfl qkB_init qkj_874 qhd_B_init ⟨Nat.le_of_ble_eq_true rfl, Nat.le_of_ble_eq_true rfl⟩ hl.1 rfl (Nat.le_of_ble_eq_true rfl) dL_lines_21 ⟨by show _ ≤ 1380; omega, by show _ ≤ 55474; omega⟩ (fun v_58 H locs _ hR hk => ?_)
      have hR : lR D (lX (qcells G ad w0) [] []) (lX (qcells G ad w) [(b_57, .inr (1, [.ref v_58, .int 0, .int 0, .int (nI ([] : List Int32).length)])), (v_58, .inl (G 5, 16, .inl (fun _ => 0)))] (lgr G gq gr n M)) s H locs := hR
      refine va_ldcS (q := ad 1010) hx hb hC.2.2.2.1 (hC.2.2.2.2.2.2.2.2.1.2.1 ("QuakeRehearsalLaw", 250, "clk", 10) (by decide +kernel)) dL_lines_24 ?_
      refine lv_aload_n hx hb dL_lines_26 rfl (lv_at hl 0 rfl) ?_
      refine lv_iconst (v := 0) hx hb dL_lines_27 (by decide) ?_
      refine l_ild hC hR (lgr_mr hj_56) (j := 0) (by decide) (by decide) dL_lines_28 ?_
      refine lv_iconst (v := 1) hx hb dL_lines_29 (by decide) ?_
      refine lv_isub hx hb dL_lines_30 ?_
      obtain ⟨g_59, hf⟩ := qgd hf
      refine l_callVi hC hR (l_ofYi qSt_k hJ (mJ0_charAt (t := (qtx.getD 10 [])) hJ g_59)) qSt_k (l_now qSt_k hR (lSt_of hC (show 10 < 20 by decide))) lp_C lp_C.symm (qSt_rc (l_now qSt_k hR (lSt_of hC (show 10 < 20 by decide)))) qkj_902 qkj_903 qkj_904 qkS_init qkj_905 qhd_J0_charAt_5068e ⟨Nat.le_of_ble_eq_true rfl, Nat.le_of_ble_eq_true rfl⟩ hl.1 rfl (Nat.le_of_ble_eq_true rfl) dL_lines_31 ⟨by show _ ≤ 1380; omega, by show _ ≤ 55474; omega⟩ (fun H locs hR hk => ?_)
      obtain ⟨g_60, hf⟩ := qgd hf
      obtain ⟨g_61, hf⟩ := qgd hf
      obtain ⟨k_62, ek_62⟩ : ∃ y : Nat, y = ((qtx.getD 10 []).getD ((M j_56 0) - 1).toNatClampNeg 0).toNatClampNeg := ⟨_, rfl⟩
      have hf := qnm_t hf ek_62
      have hk_62 : k_62 < 128 := by rw [ek_62]; exact lq_lt g_60
      refine l_eqi (x := (qtx.getD 10 []).getD ((M j_56 0) - 1).toNatClampNeg 0) (y := nI k_62) (by rw [ek_62]; exact lq_nI g_60 (by decide)) ?_
      refine l_callVr hC hR (mB_apc hJ (b := b_57) (v := v_58) (cap := 16) (n := ([] : List Int32).length) (f := (fun _ => 0)) (k := k_62) g_61 lSB_0.2.2.1 lSB_0.2.2.2.1 lSB_0.2.2.2.2.2 hk_62) lNo_k trivial lp_B (fun _ _ => lp_B1) (l_recv hC hR (lX_mx 0 rfl) (ci := 1) rfl) qkj_941 qkj_942 qkj_943 qkB_init qkj_944 qhd_B_apc ⟨Nat.le_of_ble_eq_true rfl, Nat.le_of_ble_eq_true rfl⟩ hl.1 rfl (Nat.le_of_ble_eq_true rfl) dL_lines_34 ⟨by show _ ≤ 1380; omega, by show _ ≤ 55474; omega⟩ (fun _ _ => lNo_k) (fun u_63 a_64 H locs hY hR hk _ => ?_)
      obtain ⟨ea, hB_65⟩ := lSB_apc lSB_0 hk_62 g_61 hY
      rw [ea]
      obtain ⟨t_66, et_66⟩ : ∃ y : List Int32, y = ([] : List Int32) ++ [nI k_62] := ⟨_, rfl⟩
      have hf := qnm_t hf et_66
      rw [← et_66] at hB_65
      have hR : lR D (lX (qcells G ad w0) [] []) (lX (qcells G ad w) [(b_57, .inr (1, [.ref u_63.1, .int 0, .int 0, .int (nI t_66.length)])), (u_63.1, .inl (G 5, u_63.2.1, .inl u_63.2.2))] (lgr G gq gr n M)) s H locs := by rw [et_66, List.length_append]; exact hR
      refine va_ldcS (q := ad 1011) hx hb hC.2.2.2.1 (hC.2.2.2.2.2.2.2.2.1.2.1 ("QuakeRehearsalLaw", 255, "", 11) (by decide +kernel)) dL_lines_37 ?_
      obtain ⟨g_67, hf⟩ := qgd hf
      have ha_68 := qSt_asc (l_now qSt_k hR (lSt_of hC (show 11 < 20 by decide)))
      refine l_callVr hC hR (mB_aps hJ (b := b_57) (v := u_63.1) (cap := u_63.2.1) (n := t_66.length) (f := u_63.2.2) (q := (ad 1011)) (t := (qtx.getD 11 [])) g_67 hB_65.2.2.1 hB_65.2.2.2.1 hB_65.2.2.2.2.2) qSt_k (l_now qSt_k hR (lSt_of hC (show 11 < 20 by decide))) lp_B (fun _ _ => lp_B1) (l_recv hC hR (lX_mx 0 rfl) (ci := 1) rfl) qkj_1015 qkj_1016 qkj_1017 qkB_init qkj_1018 qhd_B_aps ⟨Nat.le_of_ble_eq_true rfl, Nat.le_of_ble_eq_true rfl⟩ hl.1 rfl (Nat.le_of_ble_eq_true rfl) dL_lines_39 ⟨by show _ ≤ 1380; omega, by show _ ≤ 55474; omega⟩ (fun _ _ => lNo_k) (fun u_69 a_70 H locs hY hR hk _ => ?_)
      obtain ⟨ea, hB_71⟩ := lSB_aps hB_65 ha_68 g_67 hY
      rw [ea]
      obtain ⟨t_72, et_72⟩ : ∃ y : List Int32, y = t_66 ++ (qtx.getD 11 []) := ⟨_, rfl⟩
      have hf := qnm_t hf et_72
      rw [← et_72] at hB_71
      have hR : lR D (lX (qcells G ad w0) [] []) (lX (qcells G ad w) [(b_57, .inr (1, [.ref u_69.1, .int 0, .int 0, .int (nI t_72.length)])), (u_69.1, .inl (G 5, u_69.2.1, .inl u_69.2.2))] (lgr G gq gr n M)) s H locs := by rw [et_72, List.length_append]; exact hR
      refine lv_aload_n hx hb dL_lines_42 rfl (lv_at hl 0 rfl) ?_
      refine lv_iconst (v := 1) hx hb dL_lines_43 (by decide) ?_
      refine l_ild hC hR (lgr_mr hj_56) (j := 1) (by decide) (by decide) dL_lines_44 ?_
      obtain ⟨g_73, hf⟩ := qgd hf
      obtain ⟨g_74, hf⟩ := qgd hf
      obtain ⟨k_75, ek_75⟩ : ∃ y : Nat, y = (M j_56 1).toNatClampNeg := ⟨_, rfl⟩
      have hf := qnm_t hf ek_75
      have hk_75 : k_75 < 100 := by rw [ek_75]; exact lq_lt g_73
      refine l_eqi (x := M j_56 1) (y := nI k_75) (by rw [ek_75]; exact lq_nI g_73 (by decide)) ?_
      refine l_callVr hC hR (mB_api hJ (b := b_57) (v := u_69.1) (cap := u_69.2.1) (n := t_72.length) (f := u_69.2.2) (x := k_75) (o1 := o1) (o2 := o2) hk_75 g_74 hB_71.2.2.1 hB_71.2.2.2.1 hB_71.2.2.2.2.2) lDg_k (l_now lDg_k hR hE) lp_B (fun _ _ => lp_B1) (l_recv hC hR (lX_mx 0 rfl) (ci := 1) rfl) qkj_1061 qkj_1062 qkj_1063 qkB_init qkj_1064 qhd_B_api ⟨Nat.le_of_ble_eq_true rfl, Nat.le_of_ble_eq_true rfl⟩ hl.1 rfl (Nat.le_of_ble_eq_true rfl) dL_lines_45 ⟨by show _ ≤ 1380; omega, by show _ ≤ 55474; omega⟩ (fun _ _ => lNo_k) (fun u_76 a_77 H locs hY hR hk _ => ?_)
      obtain ⟨ea, hB_78⟩ := lSB_api hB_71 hk_75 g_74 hY
      rw [ea]
      obtain ⟨t_79, et_79⟩ : ∃ y : List Int32, y = t_72 ++ ldig k_75 := ⟨_, rfl⟩
      have hf := qnm_t hf et_79
      rw [← et_79] at hB_78
      have hR : lR D (lX (qcells G ad w0) [] []) (lX (qcells G ad w) [(b_57, .inr (1, [.ref u_76.1, .int 0, .int 0, .int (nI t_79.length)])), (u_76.1, .inl (G 5, u_76.2.1, .inl u_76.2.2))] (lgr G gq gr n M)) s H locs := by rw [et_79, List.length_append, ldig_len]; exact hR
      refine va_ldcSW (q := ad 1012) hx hb hC.2.2.2.1 (hC.2.2.2.2.2.2.2.2.1.2.1 ("QuakeRehearsalLaw", 263, ":", 12) (by decide +kernel)) dL_lines_48 ?_
      obtain ⟨g_80, hf⟩ := qgd hf
      have ha_81 := qSt_asc (l_now qSt_k hR (lSt_of hC (show 12 < 20 by decide)))
      refine l_callVr hC hR (mB_aps hJ (b := b_57) (v := u_76.1) (cap := u_76.2.1) (n := t_79.length) (f := u_76.2.2) (q := (ad 1012)) (t := (qtx.getD 12 [])) g_80 hB_78.2.2.1 hB_78.2.2.2.1 hB_78.2.2.2.2.2) qSt_k (l_now qSt_k hR (lSt_of hC (show 12 < 20 by decide))) lp_B (fun _ _ => lp_B1) (l_recv hC hR (lX_mx 0 rfl) (ci := 1) rfl) qkj_1015 qkj_1016 qkj_1017 qkB_init qkj_1018 qhd_B_aps ⟨Nat.le_of_ble_eq_true rfl, Nat.le_of_ble_eq_true rfl⟩ hl.1 rfl (Nat.le_of_ble_eq_true rfl) dL_lines_51 ⟨by show _ ≤ 1380; omega, by show _ ≤ 55474; omega⟩ (fun _ _ => lNo_k) (fun u_82 a_83 H locs hY hR hk _ => ?_)
      obtain ⟨ea, hB_84⟩ := lSB_aps hB_78 ha_81 g_80 hY
      rw [ea]
      obtain ⟨t_85, et_85⟩ : ∃ y : List Int32, y = t_79 ++ (qtx.getD 12 []) := ⟨_, rfl⟩
      have hf := qnm_t hf et_85
      rw [← et_85] at hB_84
      have hR : lR D (lX (qcells G ad w0) [] []) (lX (qcells G ad w) [(b_57, .inr (1, [.ref u_82.1, .int 0, .int 0, .int (nI t_85.length)])), (u_82.1, .inl (G 5, u_82.2.1, .inl u_82.2.2))] (lgr G gq gr n M)) s H locs := by rw [et_85, List.length_append]; exact hR
      refine lv_aload_n hx hb dL_lines_54 rfl (lv_at hl 0 rfl) ?_
      refine lv_iconst (v := 2) hx hb dL_lines_55 (by decide) ?_
      refine l_ild hC hR (lgr_mr hj_56) (j := 2) (by decide) (by decide) dL_lines_56 ?_
      obtain ⟨g_86, hf⟩ := qgd hf
      obtain ⟨g_87, hf⟩ := qgd hf
      obtain ⟨k_88, ek_88⟩ : ∃ y : Nat, y = (M j_56 2).toNatClampNeg := ⟨_, rfl⟩
      have hf := qnm_t hf ek_88
      have hk_88 : k_88 < 100 := by rw [ek_88]; exact lq_lt g_86
      refine l_eqi (x := M j_56 2) (y := nI k_88) (by rw [ek_88]; exact lq_nI g_86 (by decide)) ?_
      refine l_callVr hC hR (mB_api hJ (b := b_57) (v := u_82.1) (cap := u_82.2.1) (n := t_85.length) (f := u_82.2.2) (x := k_88) (o1 := o1) (o2 := o2) hk_88 g_87 hB_84.2.2.1 hB_84.2.2.2.1 hB_84.2.2.2.2.2) lDg_k (l_now lDg_k hR hE) lp_B (fun _ _ => lp_B1) (l_recv hC hR (lX_mx 0 rfl) (ci := 1) rfl) qkj_1061 qkj_1062 qkj_1063 qkB_init qkj_1064 qhd_B_api ⟨Nat.le_of_ble_eq_true rfl, Nat.le_of_ble_eq_true rfl⟩ hl.1 rfl (Nat.le_of_ble_eq_true rfl) dL_lines_57 ⟨by show _ ≤ 1380; omega, by show _ ≤ 55474; omega⟩ (fun _ _ => lNo_k) (fun u_89 a_90 H locs hY hR hk _ => ?_)
      obtain ⟨ea, hB_91⟩ := lSB_api hB_84 hk_88 g_87 hY
      rw [ea]
      obtain ⟨t_92, et_92⟩ : ∃ y : List Int32, y = t_85 ++ ldig k_88 := ⟨_, rfl⟩
      have hf := qnm_t hf et_92
      rw [← et_92] at hB_91
      have hR : lR D (lX (qcells G ad w0) [] []) (lX (qcells G ad w) [(b_57, .inr (1, [.ref u_89.1, .int 0, .int 0, .int (nI t_92.length)])), (u_89.1, .inl (G 5, u_89.2.1, .inl u_89.2.2))] (lgr G gq gr n M)) s H locs := by rw [et_92, List.length_append, ldig_len]; exact hR
      refine l_callVs (tx := t_92) hC hR (mB_toString hJ (b := b_57) (v := u_89.1) (cap := u_89.2.1) (n := t_92.length) (f := u_89.2.2) (tx := t_92) hB_91.2.1 hB_91.2.2.1 hB_91.2.2.2.1 hB_91.2.2.2.2.2 hB_91.1 rfl hB_91.2.2.2.2.1) lNo_k trivial lp_B lp_B1 (lad_lt hR) (l_recv hC hR (lX_mx 0 rfl) (ci := 1) rfl) qkj_1087 qkj_1088 qkj_1089 qkB_init qkj_1090 qhd_B_toString ⟨Nat.le_of_ble_eq_true rfl, Nat.le_of_ble_eq_true rfl⟩ hl.1 rfl (Nat.le_of_ble_eq_true rfl) dL_lines_60 ⟨by show _ ≤ 1380; omega, by show _ ≤ 55474; omega⟩ (fun sq_93 H locs hR hk hS_94 => ?_)
      refine lv_astore (lv' := [(4, .ref sq_93), (3, .ref (gr j_56)), (0, .ref (ad 228)), (1, .ref gq), (2, .int x2)]) hx hb dL_lines_63 hl (by decide) rfl (fun ls hl => ?_)
      refine lv_iconst (v := 0) hx hb dL_lines_65 (by decide) ?_
      refine lv_istore (lv' := [(5, .int 0), (4, .ref sq_93), (3, .ref (gr j_56)), (0, .ref (ad 228)), (1, .ref gq), (2, .int x2)]) hx hb dL_lines_66 hl (by decide) rfl (fun ls hl => ?_)
      have hk := lK_pick (ad := ad) (H := H) (C := (qcells G ad w)) (ex := [(b_57, .inr (1, [.ref u_89.1, .int 0, .int 0, .int (nI t_92.length)])), (u_89.1, .inl (G 5, u_89.2.1, .inl u_89.2.2))]) (g := (lgr G gq gr n M)) [] (ex1 := []) (g1 := (lgr G gq gr n M)) rfl (Or.inl rfl)
      have hR := lR_pick hR [] (ex1 := []) (g1 := (lgr G gq gr n M)) (by decide) rfl (Or.inl rfl)
      have hS_94 := lK_on qSt_k hS_94 hk
      exact mL_lines_L68 (B := cc + 81) (S := cs + 3878) (by omega) (by omega) hst hC hr hE (fun y0 y1 y2 y3 y4 y5 cc2 cs2 H2 locs2 ls2 hf2 hR2 hl2 hc2 hs2 => ih y0 y1 y2 y3 y4 y5 cc2 cs2 H2 locs2 ls2 hf2 hR2 hl2 (by omega) (by omega)) 5 _ _ _ _ _ _ _ _ _ _ hj_56 _ _ _ _ _ hf hR (lv_sub hl [3, 4, 5, 2, 1, 0] rfl) hS_94 (by omega) (by omega) (by omega) (by omega)
def fL_lines (w0 : qMem) : Option (Int32 × qMem) :=
  qbd3 (fL_props w0) fun (n_2 : Nat) (M_3 : Nat → Nat → Int32) (w_4 : qMem) =>
  fL_lines_L7 13 w_4 n_2 M_3 0
theorem qhd_L_lines : yL_lines.cls ≠ "java/lang/invoke/MethodHandle" ∧ yL_lines.cls ≠ "java/lang/invoke/VarHandle" ∧ (parseMethodDescriptor yL_lines.desc).map (fun d => d.parameters.length) = some 1 := ⟨by decide +kernel, by decide +kernel, by decide +kernel⟩
set_option maxHeartbeats 4000000 in
set_option maxRecDepth 100000 in
theorem mL_lines {l : Launch} {D : va_G} {G : Nat → ClassId} {ad : Nat → Nat} {o1 : Nat} {o2 : Nat} {w0 : qMem} {rF : Int32} {wF : qMem} (hJ : qInj ad) (hst : l.stackTraces = false) (hf : fL_lines w0 = some (rF, wF)) : lCM l D G ad yL_lines (Cond.code yL_lines cL_lines 6 (some .boolean)) 10 1380 55474 [.ref (ad 228)] (lX (qcells G ad w0) [] []) (lDg o1 o2) (fun st => lQi D (lX (qcells G ad w0) [] []) (lX (qcells G ad wF) [] []) st rF) := by
  refine l_start RL rfl (by decide +kernel) hJ (fun a b h => by simp only [lQi, lQl, lQr, h]) (Nat.le_of_ble_eq_true rfl) ?_
  intro p e s m args below meth c ls hC hr _ hE hR hl
  have hx := hC.1
  have hb := hC.2.1
  have hl : lv_has ls 6 [(0, .ref (ad 228))] := hl
  unfold fL_lines at hf
  refine lv_aload_n hx hb dL_lines_0 rfl (lv_at hl 0 rfl) ?_
  obtain ⟨n_2, M_3, w_4, hq_1, hf⟩ := qbd3_s hf
  refine l_callSr hC hR (mL_props hJ hst hq_1) lNo_k trivial lp_CP (fun _ _ => lp_CP1) qkl_642 qkl_643 qkl_18 qkl_644 qhd_L_props ⟨Nat.le_of_ble_eq_true rfl, Nat.le_of_ble_eq_true rfl⟩ hl.1 rfl (Nat.le_of_ble_eq_true rfl) dL_lines_1 ⟨by show _ ≤ 1380; omega, by show _ ≤ 55474; omega⟩ (fun _ _ => lNo_k) (fun u_6 q_5 H locs _ hR hk _ => ?_)
  refine lv_astore_n (lv' := [(1, .ref q_5), (0, .ref (ad 228))]) hx hb dL_lines_4 rfl hl (by decide) rfl (fun ls hl => ?_)
  refine lv_iconst (v := 0) hx hb dL_lines_5 (by decide) ?_
  refine lv_istore_n (lv' := [(2, .int 0), (1, .ref q_5), (0, .ref (ad 228))]) hx hb dL_lines_6 rfl hl (by decide) rfl (fun ls hl => ?_)
  exact mL_lines_L7 hst hC hr hE 13 _ _ _ _ _ _ _ _ _ _ _ hf hR (lv_sub hl [2, 1, 0] rfl) (by omega) (by omega)
