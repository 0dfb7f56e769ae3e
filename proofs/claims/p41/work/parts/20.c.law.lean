def fL_shaken_L279   : Nat → qMem → Nat → (Nat → Int32) → Int32 → Int32 → Int32 → Int32 → Option (Int32 × qMem)
  | 0, _, _, _, _, _, _, _ => none
  | k + 1, w, n188, f188, x1, x3, x4, x7 =>
    if x4 ≤ x7 then
      qbd2 (fX5_best w) fun (r_19 : Int32) (w_20 : qMem) =>
      if r_19 = x1 then
        qbd2 (fL_leastBreaking w_20) fun (r_22 : Int32) (w_23 : qMem) =>
        if r_22 = x3 then
          qbd2 (fX5_programmeBreaks w_23) fun (r_27 : Int32) (w_28 : qMem) =>
          qbd3 (fL_props w_28) fun (n_30 : Nat) (M_31 : Nat → Nat → Int32) (w_32 : qMem) =>
          qbd3 (fL_performs w_32 n_30 M_31) fun (f_36 : Nat → Int32) (w_37 : qMem) (M_38 : Nat → Nat → Int32) =>
          if r_27 = f_36 2 then
            qbd2 (fL_on w_37 0 0 1) fun (r_41 : Int32) (w_42 : qMem) =>
            if r_41 = (-12) then
              qbd2 (fL_on w_42 1 5 0) fun (r_45 : Int32) (w_46 : qMem) =>
              if r_45 = (-12) then
                qbd2 (fL_wouldMark w_46 10) fun (r_49 : Int32) (w_50 : qMem) =>
                if r_49 = (-12) then
                  qbd2 (fL_wouldBreak w_50 0 1) fun (r_53 : Int32) (w_54 : qMem) =>
                  if r_53 = (-12) then
                    qbd2 (fL_shocksFor w_54 x4) fun (r_57 : Int32) (w_58 : qMem) =>
                    if r_57 = (-11) then
                      qbd2 (fX5_isWell w_58) fun (r_62 : Int32) (w_63 : qMem) =>
                      if r_62 = 0 then
                        some (0, w_63)
                      else
                        some (1, w_63)
                    else
                      some (0, w_58)
                  else
                    some (0, w_54)
                else
                  some (0, w_50)
              else
                some (0, w_46)
            else
              some (0, w_42)
          else
            some (0, w_37)
        else
          some (0, w_23)
      else
        some (0, w_20)
    else
      qbd2 (fL_shocksFor w x7) fun (r_65 : Int32) (w_66 : qMem) =>
      qbd2 (fL_of w_66 x7 4) fun (r_68 : Int32) (w_69 : qMem) =>
      if r_68 = 1 then
        if r_65 = 0 then
          qnm (x7 + 1) fun (x_76 : Int32) =>
          fL_shaken_L279 k w_69 n188 f188 x1 x3 x4 x_76
        else
          none
      else
        if qin x7 n188 = true then
        if r_65 = f188 (x7).toNatClampNeg then
          qnm (x7 + 1) fun (x_74 : Int32) =>
          fL_shaken_L279 k w_69 n188 f188 x1 x3 x4 x_74
        else
          none
        else none
set_option maxHeartbeats 4000000 in
set_option maxRecDepth 100000 in
theorem mL_shaken_L279 {p : Program} {l : Launch} {e : Env} {s : State} {m : MethodId} {args : Array Value} {below : List Frame} {meth : Method} {c : Code} {D : va_G} {G : Nat → ClassId} {ad : Nat → Nat} {w0 : qMem} {rF : Int32} {wF : qMem} (hst : l.stackTraces = false) (hC : lCx p c cL_shaken 10 s m args meth RL D G ad (lX (qcells G ad w0) [] [])) (hr : meth.sig.returnType = some .boolean) : ∀ (k : Nat), ∀ (w : qMem) (n188 : Nat) (f188 : Nat → Int32) (x1 : Int32) (x3 : Int32) (x4 : Int32) (x7 : Int32) (q188 : Nat) (cc cs : Nat) (H : Heap) (locs : List Loc) (ls : Array Slot), fL_shaken_L279 k w n188 f188 x1 x3 x4 x7 = some (rF, wF) → lR D (lX (qcells G ad w0) [] []) (lX (qcells G ad w) [(q188, .inl (G 0, n188, .inl f188))] []) s H locs → lv_has ls 10 [(0, .ref (ad 228)), (1, .int x1), (3, .int x3), (4, .int x4), (5, .ref q188), (7, .int x7)] → cc + 3 * k + 810 ≤ 4682 → cs + 18 * k + 4456 ≤ 26971 → W p l e (qrm 10 4682 26971) s m args below meth c H locs cc cs (MQ below (lQi D (lX (qcells G ad w0) [] []) (lX (qcells G ad wF) [] []) s rF) args s 4682 26971 (va_A (lX (qcells G ad w0) [] []) s.heap.size)) (F0 m 279 ls []) := by
  have hx := hC.1
  have hb := hC.2.1
  have hJ := hC.2.2.2.2.2.2.2.1
  intro k
  induction k with
  | zero => intro w n188 f188 x1 x3 x4 x7 q188 cc cs H locs ls hf; exact nomatch (show (none : Option (Int32 × qMem)) = some _ from hf)
  | succ k ih =>
    intro w n188 f188 x1 x3 x4 x7 q188 cc cs H locs ls hf hR hl hcM hsM
    rw [fL_shaken_L279] at hf
    refine lv_iload hx hb dL_shaken_279 (lv_at hl 5 rfl) ?_
    refine lv_iload hx hb dL_shaken_281 (lv_at hl 3 rfl) ?_
    refine lv_icmp_ge (tgt := 323) hx hb dL_shaken_283 (by decide) (fun c__17 => ?_) (fun c__17 => ?_)
    · have hf := qif_t hf c__17
      refine lv_aload_n hx hb dL_shaken_323 rfl (lv_at hl 0 rfl) ?_
      obtain ⟨r_19, w_20, hq_18, hf⟩ := qbd2_s hf
      refine l_callVi hC hR (l_ofMi hJ (mX5_best hJ hq_18)) lNo_k trivial lp_C lp_C.symm (l_recv hC hR (lX_mc (k := 228) (by decide)) rfl) qkl_728 qk_729 qk_730 qk_19 qk_731 qhd_X5_best ⟨Nat.le_of_ble_eq_true rfl, Nat.le_of_ble_eq_true rfl⟩ hl.1 rfl (Nat.le_of_ble_eq_true rfl) dL_shaken_324 ⟨by show _ ≤ 4682; omega, by show _ ≤ 26971; omega⟩ (fun H locs hR hk => ?_)
      refine lv_iload_n hx hb dL_shaken_327 rfl (lv_at hl 1 rfl) ?_
      refine lv_icmp_ne (tgt := 424) hx hb dL_shaken_328 (by decide) (fun c__21 => ?_) (fun c__21 => ?_)
      · have hf := qif_f hf c__21
        refine lv_iconst (v := 0) hx hb dL_shaken_424 (by decide) ?_
        have hR := lR_pick hR [] (ex1 := []) (g1 := []) (by decide) rfl (Or.inl rfl)
        obtain ⟨e1, e2⟩ := qso2 hf
        exact l_iret hC hR hr (by decide) e1 (by rw [e2]) dL_shaken_425 (by omega) (by omega)
      · have hf := qif_t hf c__21
        refine lv_aload_n hx hb dL_shaken_331 rfl (lv_at hl 0 rfl) ?_
        obtain ⟨r_22, w_23, hq_24, hf⟩ := qbd2_s hf
        refine l_callSWi hC hR (l_ofHW hJ (mL_leastBreaking hJ hst hq_24)) lNo_k trivial lp_C lp_C.symm qkl_732 qkl_733 qkl_18 qkl_734 qhd_L_leastBreaking ⟨Nat.le_of_ble_eq_true rfl, Nat.le_of_ble_eq_true rfl⟩ hl.1 rfl (Nat.le_of_ble_eq_true rfl) dL_shaken_332 ⟨by show _ ≤ 4682; omega, by show _ ≤ 26971; omega⟩ (fun H locs hR hk => ?_)
        refine lv_iload_n hx hb dL_shaken_335 rfl (lv_at hl 2 rfl) ?_
        refine lv_icmp_ne (tgt := 424) hx hb dL_shaken_336 (by decide) (fun c__25 => ?_) (fun c__25 => ?_)
        · have hf := qif_f hf c__25
          refine lv_iconst (v := 0) hx hb dL_shaken_424 (by decide) ?_
          have hR := lR_pick hR [] (ex1 := []) (g1 := []) (by decide) rfl (Or.inl rfl)
          obtain ⟨e1, e2⟩ := qso2 hf
          exact l_iret hC hR hr (by decide) e1 (by rw [e2]) dL_shaken_425 (by omega) (by omega)
        · have hf := qif_t hf c__25
          refine lv_aload_n hx hb dL_shaken_339 rfl (lv_at hl 0 rfl) ?_
          obtain ⟨r_27, w_28, hq_26, hf⟩ := qbd2_s hf
          refine l_callVi hC hR (l_ofMi hJ (mX5_programmeBreaks hJ hq_26)) lNo_k trivial lp_C lp_C.symm (l_recv hC hR (lX_mc (k := 228) (by decide)) rfl) qkl_740 qk_741 qk_742 qk_19 qk_743 qhd_X5_programmeBreaks ⟨Nat.le_of_ble_eq_true rfl, Nat.le_of_ble_eq_true rfl⟩ hl.1 rfl (Nat.le_of_ble_eq_true rfl) dL_shaken_340 ⟨by show _ ≤ 4682; omega, by show _ ≤ 26971; omega⟩ (fun H locs hR hk => ?_)
          refine lv_aload_n hx hb dL_shaken_343 rfl (lv_at hl 0 rfl) ?_
          refine lv_aload_n hx hb dL_shaken_344 rfl (lv_at hl 0 rfl) ?_
          obtain ⟨n_30, M_31, w_32, hq_29, hf⟩ := qbd3_s hf
          refine l_callSr hC hR (mL_props hJ hst hq_29) lNo_k trivial lp_CP (fun _ _ => lp_CP1) qkl_642 qkl_643 qkl_18 qkl_644 qhd_L_props ⟨Nat.le_of_ble_eq_true rfl, Nat.le_of_ble_eq_true rfl⟩ hl.1 rfl (Nat.le_of_ble_eq_true rfl) dL_shaken_345 ⟨by show _ ≤ 4682; omega, by show _ ≤ 26971; omega⟩ (fun _ _ => lNo_k) (fun u_34 q_33 H locs _ hR hk _ => ?_)
          obtain ⟨f_36, w_37, M_38, hq_35, hf⟩ := qbd3_s hf
          refine l_callSr hC hR (mL_performs hJ hst hq_35) lNo_k trivial lp_CG (fun _ _ => lp_CGz) qkl_744 qkl_745 qkl_18 qkl_746 qhd_L_performs ⟨Nat.le_of_ble_eq_true rfl, Nat.le_of_ble_eq_true rfl⟩ hl.1 rfl (Nat.le_of_ble_eq_true rfl) dL_shaken_348 ⟨by show _ ≤ 4682; omega, by show _ ≤ 26971; omega⟩ (fun _ _ => lNo_k) (fun _ q_39 H locs _ hR hk _ => ?_)
          refine lv_iconst (v := 2) hx hb dL_shaken_351 (by decide) ?_
          refine l_ild hC hR (lX_mx 0 rfl) (j := 2) (by decide) (by decide) dL_shaken_352 ?_
          refine lv_icmp_ne (tgt := 424) hx hb dL_shaken_353 (by decide) (fun c__40 => ?_) (fun c__40 => ?_)
          · have hf := qif_f hf c__40
            refine lv_iconst (v := 0) hx hb dL_shaken_424 (by decide) ?_
            have hR := lR_pick hR [] (ex1 := []) (g1 := []) (by decide) rfl (Or.inr rfl)
            obtain ⟨e1, e2⟩ := qso2 hf
            exact l_iret hC hR hr (by decide) e1 (by rw [e2]) dL_shaken_425 (by omega) (by omega)
          · have hf := qif_t hf c__40
            refine lv_aload_n hx hb dL_shaken_356 rfl (lv_at hl 0 rfl) ?_
            refine lv_iconst (v := 0) hx hb dL_shaken_357 (by decide) ?_
            refine lv_iconst (v := 0) hx hb dL_shaken_358 (by decide) ?_
            refine lv_iconst (v := 1) hx hb dL_shaken_359 (by decide) ?_
            obtain ⟨r_41, w_42, hq_43, hf⟩ := qbd2_s hf
            refine l_callSWi hC hR (l_ofHW hJ (mL_on hJ hst hq_43)) lNo_k trivial lp_C lp_C.symm qkl_665 qkl_666 qkl_18 qkl_667 qhd_L_on ⟨Nat.le_of_ble_eq_true rfl, Nat.le_of_ble_eq_true rfl⟩ hl.1 rfl (Nat.le_of_ble_eq_true rfl) dL_shaken_360 ⟨by show _ ≤ 4682; omega, by show _ ≤ 26971; omega⟩ (fun H locs hR hk => ?_)
            refine lv_bipush (v := (-12)) hx hb dL_shaken_363 (by decide) ?_
            refine lv_icmp_ne (tgt := 424) hx hb dL_shaken_365 (by decide) (fun c__44 => ?_) (fun c__44 => ?_)
            · have hf := qif_f hf c__44
              refine lv_iconst (v := 0) hx hb dL_shaken_424 (by decide) ?_
              have hR := lR_pick hR [] (ex1 := []) (g1 := []) (by decide) rfl (Or.inr rfl)
              obtain ⟨e1, e2⟩ := qso2 hf
              exact l_iret hC hR hr (by decide) e1 (by rw [e2]) dL_shaken_425 (by omega) (by omega)
            · have hf := qif_t hf c__44
              refine lv_aload_n hx hb dL_shaken_368 rfl (lv_at hl 0 rfl) ?_
              refine lv_iconst (v := 1) hx hb dL_shaken_369 (by decide) ?_
              refine lv_iconst (v := 5) hx hb dL_shaken_370 (by decide) ?_
              refine lv_iconst (v := 0) hx hb dL_shaken_371 (by decide) ?_
              obtain ⟨r_45, w_46, hq_47, hf⟩ := qbd2_s hf
              refine l_callSWi hC hR (l_ofHW hJ (mL_on hJ hst hq_47)) lNo_k trivial lp_C lp_C.symm qkl_665 qkl_666 qkl_18 qkl_667 qhd_L_on ⟨Nat.le_of_ble_eq_true rfl, Nat.le_of_ble_eq_true rfl⟩ hl.1 rfl (Nat.le_of_ble_eq_true rfl) dL_shaken_372 ⟨by show _ ≤ 4682; omega, by show _ ≤ 26971; omega⟩ (fun H locs hR hk => ?_)
              refine lv_bipush (v := (-12)) hx hb dL_shaken_375 (by decide) ?_
              refine lv_icmp_ne (tgt := 424) hx hb dL_shaken_377 (by decide) (fun c__48 => ?_) (fun c__48 => ?_)
              · have hf := qif_f hf c__48
                refine lv_iconst (v := 0) hx hb dL_shaken_424 (by decide) ?_
                have hR := lR_pick hR [] (ex1 := []) (g1 := []) (by decide) rfl (Or.inr rfl)
                obtain ⟨e1, e2⟩ := qso2 hf
                exact l_iret hC hR hr (by decide) e1 (by rw [e2]) dL_shaken_425 (by omega) (by omega)
              · have hf := qif_t hf c__48
                refine lv_aload_n hx hb dL_shaken_380 rfl (lv_at hl 0 rfl) ?_
                refine lv_bipush (v := 10) hx hb dL_shaken_381 (by decide) ?_
                obtain ⟨r_49, w_50, hq_51, hf⟩ := qbd2_s hf
                refine l_callSWi hC hR (l_ofHW hJ (mL_wouldMark hJ hst hq_51)) lNo_k trivial lp_C lp_C.symm qkl_686 qkl_687 qkl_18 qkl_688 qhd_L_wouldMark ⟨Nat.le_of_ble_eq_true rfl, Nat.le_of_ble_eq_true rfl⟩ hl.1 rfl (Nat.le_of_ble_eq_true rfl) dL_shaken_383 ⟨by show _ ≤ 4682; omega, by show _ ≤ 26971; omega⟩ (fun H locs hR hk => ?_)
                refine lv_bipush (v := (-12)) hx hb dL_shaken_386 (by decide) ?_
                refine lv_icmp_ne (tgt := 424) hx hb dL_shaken_388 (by decide) (fun c__52 => ?_) (fun c__52 => ?_)
                · have hf := qif_f hf c__52
                  refine lv_iconst (v := 0) hx hb dL_shaken_424 (by decide) ?_
                  have hR := lR_pick hR [] (ex1 := []) (g1 := []) (by decide) rfl (Or.inr rfl)
                  obtain ⟨e1, e2⟩ := qso2 hf
                  exact l_iret hC hR hr (by decide) e1 (by rw [e2]) dL_shaken_425 (by omega) (by omega)
                · have hf := qif_t hf c__52
                  refine lv_aload_n hx hb dL_shaken_391 rfl (lv_at hl 0 rfl) ?_
                  refine lv_iconst (v := 0) hx hb dL_shaken_392 (by decide) ?_
                  refine lv_iconst (v := 1) hx hb dL_shaken_393 (by decide) ?_
                  obtain ⟨r_53, w_54, hq_55, hf⟩ := qbd2_s hf
                  refine l_callSWi hC hR (l_ofHW hJ (mL_wouldBreak hJ hst hq_55)) lNo_k trivial lp_C lp_C.symm qkl_701 qkl_702 qkl_18 qkl_703 qhd_L_wouldBreak ⟨Nat.le_of_ble_eq_true rfl, Nat.le_of_ble_eq_true rfl⟩ hl.1 rfl (Nat.le_of_ble_eq_true rfl) dL_shaken_394 ⟨by show _ ≤ 4682; omega, by show _ ≤ 26971; omega⟩ (fun H locs hR hk => ?_)
                  refine lv_bipush (v := (-12)) hx hb dL_shaken_397 (by decide) ?_
                  refine lv_icmp_ne (tgt := 424) hx hb dL_shaken_399 (by decide) (fun c__56 => ?_) (fun c__56 => ?_)
                  · have hf := qif_f hf c__56
                    refine lv_iconst (v := 0) hx hb dL_shaken_424 (by decide) ?_
                    have hR := lR_pick hR [] (ex1 := []) (g1 := []) (by decide) rfl (Or.inr rfl)
                    obtain ⟨e1, e2⟩ := qso2 hf
                    exact l_iret hC hR hr (by decide) e1 (by rw [e2]) dL_shaken_425 (by omega) (by omega)
                  · have hf := qif_t hf c__56
                    refine lv_aload_n hx hb dL_shaken_402 rfl (lv_at hl 0 rfl) ?_
                    refine lv_iload hx hb dL_shaken_403 (lv_at hl 3 rfl) ?_
                    obtain ⟨r_57, w_58, hq_59, hf⟩ := qbd2_s hf
                    refine l_callSWi hC hR (l_ofHW hJ (mL_shocksFor hJ hst hq_59)) lNo_k trivial lp_C lp_C.symm qkl_721 qkl_722 qkl_18 qkl_723 qhd_L_shocksFor ⟨Nat.le_of_ble_eq_true rfl, Nat.le_of_ble_eq_true rfl⟩ hl.1 rfl (Nat.le_of_ble_eq_true rfl) dL_shaken_405 ⟨by show _ ≤ 4682; omega, by show _ ≤ 26971; omega⟩ (fun H locs hR hk => ?_)
                    refine lv_bipush (v := (-11)) hx hb dL_shaken_408 (by decide) ?_
                    refine lv_icmp_ne (tgt := 424) hx hb dL_shaken_410 (by decide) (fun c__60 => ?_) (fun c__60 => ?_)
                    · have hf := qif_f hf c__60
                      refine lv_iconst (v := 0) hx hb dL_shaken_424 (by decide) ?_
                      have hR := lR_pick hR [] (ex1 := []) (g1 := []) (by decide) rfl (Or.inr rfl)
                      obtain ⟨e1, e2⟩ := qso2 hf
                      exact l_iret hC hR hr (by decide) e1 (by rw [e2]) dL_shaken_425 (by omega) (by omega)
                    · have hf := qif_t hf c__60
                      refine lv_aload_n hx hb dL_shaken_413 rfl (lv_at hl 0 rfl) ?_
                      obtain ⟨r_62, w_63, hq_61, hf⟩ := qbd2_s hf
                      refine l_callVi hC hR (l_ofMi hJ (mX5_isWell hJ hq_61)) lNo_k trivial lp_C lp_C.symm (l_recv hC hR (lX_mc (k := 228) (by decide)) rfl) qkl_759 qk_760 qk_761 qk_19 qk_762 qhd_X5_isWell ⟨Nat.le_of_ble_eq_true rfl, Nat.le_of_ble_eq_true rfl⟩ hl.1 rfl (Nat.le_of_ble_eq_true rfl) dL_shaken_414 ⟨by show _ ≤ 4682; omega, by show _ ≤ 26971; omega⟩ (fun H locs hR hk => ?_)
                      refine lv_if_eq (tgt := 424) hx hb dL_shaken_417 (by decide) (fun c__64 => ?_) (fun c__64 => ?_)
                      · have hf := qif_t hf c__64
                        refine lv_iconst (v := 0) hx hb dL_shaken_424 (by decide) ?_
                        have hR := lR_pick hR [] (ex1 := []) (g1 := []) (by decide) rfl (Or.inr rfl)
                        obtain ⟨e1, e2⟩ := qso2 hf
                        exact l_iret hC hR hr (by decide) e1 (by rw [e2]) dL_shaken_425 (by omega) (by omega)
                      · have hf := qif_f hf c__64
                        refine lv_iconst (v := 1) hx hb dL_shaken_420 (by decide) ?_
                        refine lv_goto (tgt := 425) hx hb dL_shaken_421 (by decide) ?_
                        have hR := lR_pick hR [] (ex1 := []) (g1 := []) (by decide) rfl (Or.inr rfl)
                        obtain ⟨e1, e2⟩ := qso2 hf
                        exact l_iret hC hR hr (by decide) e1 (by rw [e2]) dL_shaken_425 (by omega) (by omega)
    · have hf := qif_f hf c__17
      refine lv_aload_n hx hb dL_shaken_286 rfl (lv_at hl 0 rfl) ?_
      refine lv_iload hx hb dL_shaken_287 (lv_at hl 5 rfl) ?_
      obtain ⟨r_65, w_66, hq_67, hf⟩ := qbd2_s hf
      refine l_callSWi hC hR (l_ofHW hJ (mL_shocksFor hJ hst hq_67)) lNo_k trivial lp_C lp_C.symm qkl_721 qkl_722 qkl_18 qkl_723 qhd_L_shocksFor ⟨Nat.le_of_ble_eq_true rfl, Nat.le_of_ble_eq_true rfl⟩ hl.1 rfl (Nat.le_of_ble_eq_true rfl) dL_shaken_289 ⟨by show _ ≤ 4682; omega, by show _ ≤ 26971; omega⟩ (fun H locs hR hk => ?_)
      refine lv_aload_n hx hb dL_shaken_292 rfl (lv_at hl 0 rfl) ?_
      refine lv_iload hx hb dL_shaken_293 (lv_at hl 5 rfl) ?_
      refine lv_iconst (v := 4) hx hb dL_shaken_295 (by decide) ?_
      obtain ⟨r_68, w_69, hq_70, hf⟩ := qbd2_s hf
      refine l_callSWi hC hR (l_ofHW hJ (mL_of hJ hst hq_70)) lNo_k trivial lp_C lp_C.symm qkl_647 qkl_648 qkl_18 qkl_649 qhd_L_of ⟨Nat.le_of_ble_eq_true rfl, Nat.le_of_ble_eq_true rfl⟩ hl.1 rfl (Nat.le_of_ble_eq_true rfl) dL_shaken_296 ⟨by show _ ≤ 4682; omega, by show _ ≤ 26971; omega⟩ (fun H locs hR hk => ?_)
      refine lv_iconst (v := 1) hx hb dL_shaken_299 (by decide) ?_
      refine lv_icmp_ne (tgt := 307) hx hb dL_shaken_300 (by decide) (fun c__71 => ?_) (fun c__71 => ?_)
      · have hf := qif_f hf c__71
        refine lv_aload hx hb dL_shaken_307 (lv_at hl 4 rfl) ?_
        refine lv_iload hx hb dL_shaken_309 (lv_at hl 5 rfl) ?_
        obtain ⟨g_72, hf⟩ := qgd hf
        refine l_ild hC hR (lX_mx 0 rfl) (j := (x7).toNatClampNeg) g_72 rfl dL_shaken_311 ?_
        refine lv_icmp_eq (tgt := 317) hx hb dL_shaken_312 (by decide) (fun c__73 => ?_) (fun c__73 => ?_)
        · have hf := qif_t hf c__73
          obtain ⟨x_74, ex_74⟩ : ∃ y : Int32, y = x7 + 1 := ⟨_, rfl⟩
          have hf := qnm_t hf ex_74
          refine lv_iinc (v := x_74) (lv' := [(7, .int x_74), (0, .ref (ad 228)), (1, .int x1), (3, .int x3), (4, .int x4), (5, .ref q188)]) hx hb dL_shaken_317 hl (k := 5) rfl (by rw [ex_74]; rfl) (by decide) rfl (fun ls hl => ?_)
          refine lv_goto (tgt := 279) hx hb dL_shaken_320 (by decide) ?_
          exact ih _ _ _ _ _ _ _ _ _ _ _ _ _ hf hR (lv_sub hl [1, 2, 3, 4, 5, 0] rfl) (by omega) (by omega)
        · have hf := qif_f hf c__73
          exact nomatch hf
      · have hf := qif_t hf c__71
        refine lv_iconst (v := 0) hx hb dL_shaken_303 (by decide) ?_
        refine lv_goto (tgt := 312) hx hb dL_shaken_304 (by decide) ?_
        refine lv_icmp_eq (tgt := 317) hx hb dL_shaken_312 (by decide) (fun c__75 => ?_) (fun c__75 => ?_)
        · have hf := qif_t hf c__75
          obtain ⟨x_76, ex_76⟩ : ∃ y : Int32, y = x7 + 1 := ⟨_, rfl⟩
          have hf := qnm_t hf ex_76
          refine lv_iinc (v := x_76) (lv' := [(7, .int x_76), (0, .ref (ad 228)), (1, .int x1), (3, .int x3), (4, .int x4), (5, .ref q188)]) hx hb dL_shaken_317 hl (k := 5) rfl (by rw [ex_76]; rfl) (by decide) rfl (fun ls hl => ?_)
          refine lv_goto (tgt := 279) hx hb dL_shaken_320 (by decide) ?_
          exact ih _ _ _ _ _ _ _ _ _ _ _ _ _ hf hR (lv_sub hl [1, 2, 3, 4, 5, 0] rfl) (by omega) (by omega)
        · have hf := qif_f hf c__75
          exact nomatch hf
def fL_shaken_L258  (k223 : (qMem → Nat → (Nat → Nat → Int32) → Nat → (Nat → Int32) → Int32 → Int32 → Int32 → Int32 → Int32 → Option (Int32 × qMem))) (w : qMem) (n : Nat) (M : Nat → Nat → Int32) (n188 : Nat) (f188 : Nat → Int32) (x1 : Int32) (x3 : Int32) (x4 : Int32) (x7 : Int32) (x9 : Int32) (s0 : Int32) : Option (Int32 × qMem) :=
  if qin x9 n188 = true then
  if qin s0 n188 = true then
  qnm (upd f188 (s0).toNatClampNeg (f188 (x9).toNatClampNeg)) fun (f_92 : Nat → Int32) =>
  qnm (x9 + 1) fun (x_93 : Int32) =>
  k223 w n M n188 f_92 x1 x3 x4 x7 x_93
  else none
  else none
set_option maxHeartbeats 4000000 in
set_option maxRecDepth 100000 in
theorem mL_shaken_L258 {p : Program} {l : Launch} {e : Env} {s : State} {m : MethodId} {args : Array Value} {below : List Frame} {meth : Method} {c : Code} {D : va_G} {G : Nat → ClassId} {ad : Nat → Nat} {w0 : qMem} {rF : Int32} {wF : qMem} {k223 : (qMem → Nat → (Nat → Nat → Int32) → Nat → (Nat → Int32) → Int32 → Int32 → Int32 → Int32 → Int32 → Option (Int32 × qMem))} {B S : Nat} (hBM : B ≤ 4682) (hSM : S ≤ 26971) (hst : l.stackTraces = false) (hC : lCx p c cL_shaken 10 s m args meth RL D G ad (lX (qcells G ad w0) [] [])) (hr : meth.sig.returnType = some .boolean) (hk223 : ∀ (w : qMem) (n : Nat) (M : Nat → Nat → Int32) (n188 : Nat) (f188 : Nat → Int32) (x1 : Int32) (x3 : Int32) (x4 : Int32) (x7 : Int32) (x9 : Int32) (gq : Nat) (gr : Nat → Nat) (q188 : Nat) (cc cs : Nat) (H : Heap) (locs : List Loc) (ls : Array Slot), k223 w n M n188 f188 x1 x3 x4 x7 x9 = some (rF, wF) → lR D (lX (qcells G ad w0) [] []) (lX (qcells G ad w) [(q188, .inl (G 0, n188, .inl f188))] (lgr G gq gr n M)) s H locs → lv_has ls 10 [(0, .ref (ad 228)), (1, .int x1), (3, .int x3), (4, .int x4), (5, .ref q188), (6, .ref gq), (7, .int x7), (9, .int x9)] → cc ≤ B → cs ≤ S → W p l e (qrm 10 4682 26971) s m args below meth c H locs cc cs (MQ below (lQi D (lX (qcells G ad w0) [] []) (lX (qcells G ad wF) [] []) s rF) args s 4682 26971 (va_A (lX (qcells G ad w0) [] []) s.heap.size)) (F0 m 223 ls [])) : ∀ (w : qMem) (n : Nat) (M : Nat → Nat → Int32) (n188 : Nat) (f188 : Nat → Int32) (x1 : Int32) (x3 : Int32) (x4 : Int32) (x7 : Int32) (x9 : Int32) (s0 : Int32) (gq : Nat) (gr : Nat → Nat) (q188 : Nat) (cc cs : Nat) (H : Heap) (locs : List Loc) (ls : Array Slot), fL_shaken_L258 k223 w n M n188 f188 x1 x3 x4 x7 x9 s0 = some (rF, wF) → lR D (lX (qcells G ad w0) [] []) (lX (qcells G ad w) [(q188, .inl (G 0, n188, .inl f188))] (lgr G gq gr n M)) s H locs → lv_has ls 10 [(0, .ref (ad 228)), (1, .int x1), (3, .int x3), (4, .int x4), (5, .ref q188), (6, .ref gq), (7, .int x7), (9, .int x9)] → cc ≤ B → cs ≤ S → cc ≤ 4682 → cs ≤ 26971 → W p l e (qrm 10 4682 26971) s m args below meth c H locs cc cs (MQ below (lQi D (lX (qcells G ad w0) [] []) (lX (qcells G ad wF) [] []) s rF) args s 4682 26971 (va_A (lX (qcells G ad w0) [] []) s.heap.size)) (F0 m 258 ls [.int s0, .ref q188]) := by
  have hx := hC.1
  have hb := hC.2.1
  have hJ := hC.2.2.2.2.2.2.2.1
  intro w n M n188 f188 x1 x3 x4 x7 x9 s0 gq gr q188 cc cs H locs ls hf hR hl hcB hsB hcM hsM
  unfold fL_shaken_L258 at hf
  refine lv_aload hx hb dL_shaken_258 (lv_at hl 4 rfl) ?_
  refine lv_iload hx hb dL_shaken_260 (lv_at hl 7 rfl) ?_
  obtain ⟨g_90, hf⟩ := qgd hf
  refine l_ild hC hR (lX_mx 0 rfl) (j := (x9).toNatClampNeg) g_90 rfl dL_shaken_262 ?_
  obtain ⟨g_91, hf⟩ := qgd hf
  refine l_ist hC hR 0 rfl (j := (s0).toNatClampNeg) g_91 rfl dL_shaken_263 (fun H locs hR => ?_)
  obtain ⟨f_92, ef_92⟩ : ∃ y : Nat → Int32, y = upd f188 (s0).toNatClampNeg (f188 (x9).toNatClampNeg) := ⟨_, rfl⟩
  have hf := qnm_t hf ef_92
  have hR : lR D (lX (qcells G ad w0) [] []) (lX (qcells G ad w) [(q188, .inl (G 0, n188, .inl f_92))] (lgr G gq gr n M)) s H locs := by rw [ef_92]; exact hR
  obtain ⟨x_93, ex_93⟩ : ∃ y : Int32, y = x9 + 1 := ⟨_, rfl⟩
  have hf := qnm_t hf ex_93
  refine lv_iinc (v := x_93) (lv' := [(9, .int x_93), (0, .ref (ad 228)), (1, .int x1), (3, .int x3), (4, .int x4), (5, .ref q188), (6, .ref gq), (7, .int x7)]) hx hb dL_shaken_264 hl (k := 7) rfl (by rw [ex_93]; rfl) (by decide) rfl (fun ls hl => ?_)
  refine lv_goto (tgt := 223) hx hb dL_shaken_267 (by decide) ?_
  exact hk223 _ _ _ _ _ _ _ _ _ _ _ _ _ _ _ _ _ _ hf hR (lv_sub hl [1, 2, 3, 4, 5, 6, 7, 0] rfl) (by omega) (by omega)
def fL_shaken_L223  (k201 : (qMem → Nat → (Nat → Nat → Int32) → Nat → (Nat → Int32) → Int32 → Int32 → Int32 → Int32 → Option (Int32 × qMem))) : Nat → qMem → Nat → (Nat → Nat → Int32) → Nat → (Nat → Int32) → Int32 → Int32 → Int32 → Int32 → Int32 → Option (Int32 × qMem)
  | 0, _, _, _, _, _, _, _, _, _, _ => none
  | k + 1, w, n, M, n188, f188, x1, x3, x4, x7, x9 =>
    if x4 ≤ x9 then
      qnm (x7 + 1) fun (x_87 : Int32) =>
      k201 w n M n188 f188 x1 x3 x4 x_87
    else
      if qin x9 n188 = true then
      if f188 (x9).toNatClampNeg = 0 then
        if qin x9 n = true then
        qnm ((x9).toNatClampNeg) fun (j_95 : Nat) =>
        if M j_95 4 = 1 then
          if qin x9 n188 = true then
          qnm (upd f188 (x9).toNatClampNeg x7) fun (f_98 : Nat → Int32) =>
          qnm (x9 + 1) fun (x_99 : Int32) =>
          fL_shaken_L223 k201 k w n M n188 f_98 x1 x3 x4 x7 x_99
          else none
        else
          fL_shaken_L258 (fL_shaken_L223 k201 k) w n M n188 f188 x1 x3 x4 x7 x9 x9
        else none
      else
        fL_shaken_L258 (fL_shaken_L223 k201 k) w n M n188 f188 x1 x3 x4 x7 x9 x9
      else none
set_option maxHeartbeats 4000000 in
set_option maxRecDepth 100000 in
theorem mL_shaken_L223 {p : Program} {l : Launch} {e : Env} {s : State} {m : MethodId} {args : Array Value} {below : List Frame} {meth : Method} {c : Code} {D : va_G} {G : Nat → ClassId} {ad : Nat → Nat} {w0 : qMem} {rF : Int32} {wF : qMem} {k201 : (qMem → Nat → (Nat → Nat → Int32) → Nat → (Nat → Int32) → Int32 → Int32 → Int32 → Int32 → Option (Int32 × qMem))} {B S : Nat} (hBM : B ≤ 4682) (hSM : S ≤ 26971) (hst : l.stackTraces = false) (hC : lCx p c cL_shaken 10 s m args meth RL D G ad (lX (qcells G ad w0) [] [])) (hr : meth.sig.returnType = some .boolean) (hk201 : ∀ (w : qMem) (n : Nat) (M : Nat → Nat → Int32) (n188 : Nat) (f188 : Nat → Int32) (x1 : Int32) (x3 : Int32) (x4 : Int32) (x7 : Int32) (gq : Nat) (gr : Nat → Nat) (q188 : Nat) (cc cs : Nat) (H : Heap) (locs : List Loc) (ls : Array Slot), k201 w n M n188 f188 x1 x3 x4 x7 = some (rF, wF) → lR D (lX (qcells G ad w0) [] []) (lX (qcells G ad w) [(q188, .inl (G 0, n188, .inl f188))] (lgr G gq gr n M)) s H locs → lv_has ls 10 [(0, .ref (ad 228)), (1, .int x1), (3, .int x3), (4, .int x4), (5, .ref q188), (6, .ref gq), (7, .int x7)] → cc ≤ B → cs ≤ S → W p l e (qrm 10 4682 26971) s m args below meth c H locs cc cs (MQ below (lQi D (lX (qcells G ad w0) [] []) (lX (qcells G ad wF) [] []) s rF) args s 4682 26971 (va_A (lX (qcells G ad w0) [] []) s.heap.size)) (F0 m 201 ls [])) : ∀ (k : Nat), ∀ (w : qMem) (n : Nat) (M : Nat → Nat → Int32) (n188 : Nat) (f188 : Nat → Int32) (x1 : Int32) (x3 : Int32) (x4 : Int32) (x7 : Int32) (x9 : Int32) (gq : Nat) (gr : Nat → Nat) (q188 : Nat) (cc cs : Nat) (H : Heap) (locs : List Loc) (ls : Array Slot), fL_shaken_L223 k201 k w n M n188 f188 x1 x3 x4 x7 x9 = some (rF, wF) → lR D (lX (qcells G ad w0) [] []) (lX (qcells G ad w) [(q188, .inl (G 0, n188, .inl f188))] (lgr G gq gr n M)) s H locs → lv_has ls 10 [(0, .ref (ad 228)), (1, .int x1), (3, .int x3), (4, .int x4), (5, .ref q188), (6, .ref gq), (7, .int x7), (9, .int x9)] → cc ≤ B → cs ≤ S → cc ≤ 4682 → cs ≤ 26971 → W p l e (qrm 10 4682 26971) s m args below meth c H locs cc cs (MQ below (lQi D (lX (qcells G ad w0) [] []) (lX (qcells G ad wF) [] []) s rF) args s 4682 26971 (va_A (lX (qcells G ad w0) [] []) s.heap.size)) (F0 m 223 ls []) := by
  have hx := hC.1
  have hb := hC.2.1
  have hJ := hC.2.2.2.2.2.2.2.1
  intro k
  induction k with
  | zero => intro w n M n188 f188 x1 x3 x4 x7 x9 gq gr q188 cc cs H locs ls hf; exact nomatch (show (none : Option (Int32 × qMem)) = some _ from hf)
  | succ k ih =>
    intro w n M n188 f188 x1 x3 x4 x7 x9 gq gr q188 cc cs H locs ls hf hR hl hcB hsB hcM hsM
    rw [fL_shaken_L223] at hf
    refine lv_iload hx hb dL_shaken_223 (lv_at hl 7 rfl) ?_
    refine lv_iload hx hb dL_shaken_225 (lv_at hl 3 rfl) ?_
    refine lv_icmp_ge (tgt := 270) hx hb dL_shaken_227 (by decide) (fun c__86 => ?_) (fun c__86 => ?_)
    · have hf := qif_t hf c__86
      obtain ⟨x_87, ex_87⟩ : ∃ y : Int32, y = x7 + 1 := ⟨_, rfl⟩
      have hf := qnm_t hf ex_87
      refine lv_iinc (v := x_87) (lv' := [(7, .int x_87), (0, .ref (ad 228)), (1, .int x1), (3, .int x3), (4, .int x4), (5, .ref q188), (6, .ref gq), (9, .int x9)]) hx hb dL_shaken_270 hl (k := 6) rfl (by rw [ex_87]; rfl) (by decide) rfl (fun ls hl => ?_)
      refine lv_goto (tgt := 201) hx hb dL_shaken_273 (by decide) ?_
      exact hk201 _ _ _ _ _ _ _ _ _ _ _ _ _ _ _ _ _ hf hR (lv_sub hl [1, 2, 3, 4, 5, 6, 0] rfl) (by omega) (by omega)
    · have hf := qif_f hf c__86
      refine lv_aload hx hb dL_shaken_230 (lv_at hl 4 rfl) ?_
      refine lv_iload hx hb dL_shaken_232 (lv_at hl 7 rfl) ?_
      refine lv_aload hx hb dL_shaken_234 (lv_at hl 4 rfl) ?_
      refine lv_iload hx hb dL_shaken_236 (lv_at hl 7 rfl) ?_
      obtain ⟨g_88, hf⟩ := qgd hf
      refine l_ild hC hR (lX_mx 0 rfl) (j := (x9).toNatClampNeg) g_88 rfl dL_shaken_238 ?_
      refine lv_if_ne (tgt := 258) hx hb dL_shaken_239 (by decide) (fun c__89 => ?_) (fun c__89 => ?_)
      · have hf := qif_f hf c__89
        exact mL_shaken_L258 (B := cc + 0) (S := cs + 0) (by omega) (by omega) hst hC hr (fun y0 y1 y2 y3 y4 y5 y6 y7 y8 y9 y10 y11 y12 cc2 cs2 H2 locs2 ls2 hf2 hR2 hl2 hc2 hs2 => ih y0 y1 y2 y3 y4 y5 y6 y7 y8 y9 y10 y11 y12 cc2 cs2 H2 locs2 ls2 hf2 hR2 hl2 (by omega) (by omega) (by omega) (by omega)) _ _ _ _ _ _ _ _ _ _ _ _ _ _ _ _ _ _ _ hf hR (lv_sub hl [0, 1, 2, 3, 4, 5, 6, 7] rfl) (by omega) (by omega) (by omega) (by omega)
      · have hf := qif_t hf c__89
        refine lv_aload hx hb dL_shaken_242 (lv_at hl 5 rfl) ?_
        refine lv_iload hx hb dL_shaken_244 (lv_at hl 7 rfl) ?_
        obtain ⟨g_94, hf⟩ := qgd hf
        obtain ⟨j_95, ej_95⟩ : ∃ y : Nat, y = (x9).toNatClampNeg := ⟨_, rfl⟩
        have hf := qnm_t hf ej_95
        have hj_95 : j_95 < n := by rw [ej_95]; exact lq_lt g_94
        refine l_ald hC hR lgr_m0 (j := j_95) g_94 ej_95.symm dL_shaken_246 ?_
        refine lv_iconst (v := 4) hx hb dL_shaken_247 (by decide) ?_
        refine l_ild hC hR (lgr_mr hj_95) (j := 4) (by decide) (by decide) dL_shaken_248 ?_
        refine lv_iconst (v := 1) hx hb dL_shaken_249 (by decide) ?_
        refine lv_icmp_ne (tgt := 258) hx hb dL_shaken_250 (by decide) (fun c__96 => ?_) (fun c__96 => ?_)
        · have hf := qif_f hf c__96
          exact mL_shaken_L258 (B := cc + 0) (S := cs + 0) (by omega) (by omega) hst hC hr (fun y0 y1 y2 y3 y4 y5 y6 y7 y8 y9 y10 y11 y12 cc2 cs2 H2 locs2 ls2 hf2 hR2 hl2 hc2 hs2 => ih y0 y1 y2 y3 y4 y5 y6 y7 y8 y9 y10 y11 y12 cc2 cs2 H2 locs2 ls2 hf2 hR2 hl2 (by omega) (by omega) (by omega) (by omega)) _ _ _ _ _ _ _ _ _ _ _ _ _ _ _ _ _ _ _ hf hR (lv_sub hl [0, 1, 2, 3, 4, 5, 6, 7] rfl) (by omega) (by omega) (by omega) (by omega)
        · have hf := qif_t hf c__96
          refine lv_iload hx hb dL_shaken_253 (lv_at hl 6 rfl) ?_
          refine lv_goto (tgt := 263) hx hb dL_shaken_255 (by decide) ?_
          obtain ⟨g_97, hf⟩ := qgd hf
          refine l_ist hC hR 0 rfl (j := (x9).toNatClampNeg) g_97 rfl dL_shaken_263 (fun H locs hR => ?_)
          obtain ⟨f_98, ef_98⟩ : ∃ y : Nat → Int32, y = upd f188 (x9).toNatClampNeg x7 := ⟨_, rfl⟩
          have hf := qnm_t hf ef_98
          have hR : lR D (lX (qcells G ad w0) [] []) (lX (qcells G ad w) [(q188, .inl (G 0, n188, .inl f_98))] (lgr G gq gr n M)) s H locs := by rw [ef_98]; exact hR
          obtain ⟨x_99, ex_99⟩ : ∃ y : Int32, y = x9 + 1 := ⟨_, rfl⟩
          have hf := qnm_t hf ex_99
          refine lv_iinc (v := x_99) (lv' := [(9, .int x_99), (0, .ref (ad 228)), (1, .int x1), (3, .int x3), (4, .int x4), (5, .ref q188), (6, .ref gq), (7, .int x7)]) hx hb dL_shaken_264 hl (k := 7) rfl (by rw [ex_99]; rfl) (by decide) rfl (fun ls hl => ?_)
          refine lv_goto (tgt := 223) hx hb dL_shaken_267 (by decide) ?_
          exact ih _ _ _ _ _ _ _ _ _ _ _ _ _ _ _ _ _ _ hf hR (lv_sub hl [1, 2, 3, 4, 5, 6, 7, 0] rfl) (by omega) (by omega) (by omega) (by omega)
def fL_shaken_L201   : Nat → qMem → Nat → (Nat → Nat → Int32) → Nat → (Nat → Int32) → Int32 → Int32 → Int32 → Int32 → Option (Int32 × qMem)
  | 0, _, _, _, _, _, _, _, _, _ => none
  | k + 1, w, n, M, n188, f188, x1, x3, x4, x7 =>
    if (30 : Int32) < x7 then
      fL_shaken_L279 13 w n188 f188 x1 x3 x4 0
    else
      qbd3 (fX5_account w 5) fun (k_79 : Nat) (r_78 : Int32) (w_80 : qMem) =>
      if k_79 = 0 then
      qbd2 (fL_shocks n M r_78) fun (f_83 : Nat → Int32) (M_84 : Nat → Nat → Int32) =>
      fL_shaken_L223 (fL_shaken_L201 k) 13 w_80 n M_84 n188 f188 x1 x3 x4 x7 0
      else none
set_option maxHeartbeats 4000000 in
set_option maxRecDepth 100000 in
theorem mL_shaken_L201 {p : Program} {l : Launch} {e : Env} {s : State} {m : MethodId} {args : Array Value} {below : List Frame} {meth : Method} {c : Code} {D : va_G} {G : Nat → ClassId} {ad : Nat → Nat} {w0 : qMem} {rF : Int32} {wF : qMem} (hst : l.stackTraces = false) (hC : lCx p c cL_shaken 10 s m args meth RL D G ad (lX (qcells G ad w0) [] [])) (hr : meth.sig.returnType = some .boolean) : ∀ (k : Nat), ∀ (w : qMem) (n : Nat) (M : Nat → Nat → Int32) (n188 : Nat) (f188 : Nat → Int32) (x1 : Int32) (x3 : Int32) (x4 : Int32) (x7 : Int32) (gq : Nat) (gr : Nat → Nat) (q188 : Nat) (cc cs : Nat) (H : Heap) (locs : List Loc) (ls : Array Slot), fL_shaken_L201 k w n M n188 f188 x1 x3 x4 x7 = some (rF, wF) → lR D (lX (qcells G ad w0) [] []) (lX (qcells G ad w) [(q188, .inl (G 0, n188, .inl f188))] (lgr G gq gr n M)) s H locs → lv_has ls 10 [(0, .ref (ad 228)), (1, .int x1), (3, .int x3), (4, .int x4), (5, .ref q188), (6, .ref gq), (7, .int x7)] → cc + 29 * k + 849 ≤ 4682 → cs + 153 * k + 4690 ≤ 26971 → W p l e (qrm 10 4682 26971) s m args below meth c H locs cc cs (MQ below (lQi D (lX (qcells G ad w0) [] []) (lX (qcells G ad wF) [] []) s rF) args s 4682 26971 (va_A (lX (qcells G ad w0) [] []) s.heap.size)) (F0 m 201 ls []) := by
  have hx := hC.1
  have hb := hC.2.1
  have hJ := hC.2.2.2.2.2.2.2.1
  intro k
  induction k with
  | zero => intro w n M n188 f188 x1 x3 x4 x7 gq gr q188 cc cs H locs ls hf; exact nomatch (show (none : Option (Int32 × qMem)) = some _ from hf)
  | succ k ih =>
    intro w n M n188 f188 x1 x3 x4 x7 gq gr q188 cc cs H locs ls hf hR hl hcM hsM
    rw [fL_shaken_L201] at hf
    refine lv_iload hx hb dL_shaken_201 (lv_at hl 6 rfl) ?_
    refine lv_bipush (v := 30) hx hb dL_shaken_203 (by decide) ?_
    refine lv_icmp_gt (tgt := 276) hx hb dL_shaken_205 (by decide) (fun c__16 => ?_) (fun c__16 => ?_)
    · have hf := qif_t hf c__16
      refine lv_iconst (v := 0) hx hb dL_shaken_276 (by decide) ?_
      refine lv_istore (lv' := [(7, .int 0), (0, .ref (ad 228)), (1, .int x1), (3, .int x3), (4, .int x4), (5, .ref q188), (6, .ref gq)]) hx hb dL_shaken_277 hl (by decide) rfl (fun ls hl => ?_)
      have hR := lR_pick hR [0] (ex1 := [(q188, .inl (G 0, n188, .inl f188))]) (g1 := []) (by decide) rfl (Or.inr rfl)
      exact mL_shaken_L279 hst hC hr 13 _ _ _ _ _ _ _ _ _ _ _ _ _ hf hR (lv_sub hl [1, 2, 3, 4, 5, 0] rfl) (by omega) (by omega)
    · have hf := qif_f hf c__16
      refine lv_aload hx hb dL_shaken_208 (lv_at hl 5 rfl) ?_
      refine lv_aload_n hx hb dL_shaken_210 rfl (lv_at hl 0 rfl) ?_
      refine lv_iconst (v := 5) hx hb dL_shaken_211 (by decide) ?_
      obtain ⟨k_79, r_78, w_80, hq_77, hf⟩ := qbd3_s hf
      obtain ⟨h_81, hf⟩ := qgd hf
      refine l_callVi hC hR (l_ofXi hJ (mX5_account hJ hst hq_77) h_81) lNo_k trivial lp_C lp_C.symm (l_recv hC hR (lX_mc (k := 228) (by decide)) rfl) qkl_535 qk_536 qk_537 qk_19 qk_538 qhd_X5_account ⟨Nat.le_of_ble_eq_true rfl, Nat.le_of_ble_eq_true rfl⟩ hl.1 rfl (Nat.le_of_ble_eq_true rfl) dL_shaken_212 ⟨by show _ ≤ 4682; omega, by show _ ≤ 26971; omega⟩ (fun H locs hR hk => ?_)
      obtain ⟨f_83, M_84, hq_82, hf⟩ := qbd2_s hf
      refine l_callSr hC hR (mL_shocks hJ hst hq_82) lNo_k trivial lp_GR (fun _ _ => lp_Gz) qkl_682 qkl_683 qkl_18 qkl_684 qhd_L_shocks ⟨Nat.le_of_ble_eq_true rfl, Nat.le_of_ble_eq_true rfl⟩ hl.1 rfl (Nat.le_of_ble_eq_true rfl) dL_shaken_215 ⟨by show _ ≤ 4682; omega, by show _ ≤ 26971; omega⟩ (fun _ _ => lNo_k) (fun _ q_85 H locs _ hR hk _ => ?_)
      refine lv_astore (lv' := [(8, .ref q_85), (0, .ref (ad 228)), (1, .int x1), (3, .int x3), (4, .int x4), (5, .ref q188), (6, .ref gq), (7, .int x7)]) hx hb dL_shaken_218 hl (by decide) rfl (fun ls hl => ?_)
      refine lv_iconst (v := 0) hx hb dL_shaken_220 (by decide) ?_
      refine lv_istore (lv' := [(9, .int 0), (8, .ref q_85), (0, .ref (ad 228)), (1, .int x1), (3, .int x3), (4, .int x4), (5, .ref q188), (6, .ref gq), (7, .int x7)]) hx hb dL_shaken_221 hl (by decide) rfl (fun ls hl => ?_)
      have hR := lR_pick hR [1] (ex1 := [(q188, .inl (G 0, n188, .inl f188))]) (g1 := (lgr G gq gr n M_84)) (by decide) rfl (Or.inl rfl)
      exact mL_shaken_L223 (B := cc + 29) (S := cs + 153) (by omega) (by omega) hst hC hr (fun y0 y1 y2 y3 y4 y5 y6 y7 y8 y9 y10 y11 cc2 cs2 H2 locs2 ls2 hf2 hR2 hl2 hc2 hs2 => ih y0 y1 y2 y3 y4 y5 y6 y7 y8 y9 y10 y11 cc2 cs2 H2 locs2 ls2 hf2 hR2 hl2 (by omega) (by omega)) 13 _ _ _ _ _ _ _ _ _ _ _ _ _ _ _ _ _ _ hf hR (lv_sub hl [2, 3, 4, 5, 6, 7, 8, 0] rfl) (by omega) (by omega) (by omega) (by omega)
def fL_shaken_L129  (k10 : (qMem → Int32 → Int32 → Int32 → Int32 → Option (Int32 × qMem))) (w : qMem) (f83 : Nat → Int32) (x1 : Int32) (x2 : Int32) (x4 : Int32) (s0 : Int32) : Option (Int32 × qMem) :=
  qbd2 (fL_wouldMark w x4) fun (r_114 : Int32) (w_115 : qMem) =>
  if r_114 = f83 0 then
    qbd2 (fL_wouldBreak w_115 x4 0) fun (r_118 : Int32) (w_119 : qMem) =>
    if r_118 = f83 1 then
      qbd2 (fL_wouldBreak w_119 x4 1) fun (r_122 : Int32) (w_123 : qMem) =>
      if r_122 = f83 1 then
        qnm (x4 + 1) fun (x_126 : Int32) =>
        k10 w_123 x1 x2 s0 x_126
      else
        none
    else
      none
  else
    none
set_option maxHeartbeats 4000000 in
set_option maxRecDepth 100000 in
theorem mL_shaken_L129 {p : Program} {l : Launch} {e : Env} {s : State} {m : MethodId} {args : Array Value} {below : List Frame} {meth : Method} {c : Code} {D : va_G} {G : Nat → ClassId} {ad : Nat → Nat} {w0 : qMem} {rF : Int32} {wF : qMem} {k10 : (qMem → Int32 → Int32 → Int32 → Int32 → Option (Int32 × qMem))} {B S : Nat} (hBM : B ≤ 4682) (hSM : S ≤ 26971) (hst : l.stackTraces = false) (hC : lCx p c cL_shaken 10 s m args meth RL D G ad (lX (qcells G ad w0) [] [])) (hr : meth.sig.returnType = some .boolean) (hk10 : ∀ (w : qMem) (x1 : Int32) (x2 : Int32) (x3 : Int32) (x4 : Int32) (cc cs : Nat) (H : Heap) (locs : List Loc) (ls : Array Slot), k10 w x1 x2 x3 x4 = some (rF, wF) → lR D (lX (qcells G ad w0) [] []) (lX (qcells G ad w) [] []) s H locs → lv_has ls 10 [(0, .ref (ad 228)), (1, .int x1), (2, .int x2), (3, .int x3), (4, .int x4)] → cc ≤ B → cs ≤ S → W p l e (qrm 10 4682 26971) s m args below meth c H locs cc cs (MQ below (lQi D (lX (qcells G ad w0) [] []) (lX (qcells G ad wF) [] []) s rF) args s 4682 26971 (va_A (lX (qcells G ad w0) [] []) s.heap.size)) (F0 m 10 ls [])) : ∀ (w : qMem) (f83 : Nat → Int32) (x1 : Int32) (x2 : Int32) (x4 : Int32) (s0 : Int32) (q83 : Nat) (cc cs : Nat) (H : Heap) (locs : List Loc) (ls : Array Slot), fL_shaken_L129 k10 w f83 x1 x2 x4 s0 = some (rF, wF) → lR D (lX (qcells G ad w0) [] []) (lX (qcells G ad w) [(q83, .inl (G 0, 2, .inl f83))] []) s H locs → lv_has ls 10 [(0, .ref (ad 228)), (1, .int x1), (2, .int x2), (4, .int x4), (6, .ref q83)] → cc + 3 ≤ B → cs + 18 ≤ S → cc ≤ 4682 → cs ≤ 26971 → W p l e (qrm 10 4682 26971) s m args below meth c H locs cc cs (MQ below (lQi D (lX (qcells G ad w0) [] []) (lX (qcells G ad wF) [] []) s rF) args s 4682 26971 (va_A (lX (qcells G ad w0) [] []) s.heap.size)) (F0 m 129 ls [.int s0]) := by
  have hx := hC.1
  have hb := hC.2.1
  have hJ := hC.2.2.2.2.2.2.2.1
  intro w f83 x1 x2 x4 s0 q83 cc cs H locs ls hf hR hl hcB hsB hcM hsM
  unfold fL_shaken_L129 at hf
  refine lv_istore_n (lv' := [(3, .int s0), (0, .ref (ad 228)), (1, .int x1), (2, .int x2), (4, .int x4), (6, .ref q83)]) hx hb dL_shaken_129 rfl hl (by decide) rfl (fun ls hl => ?_)
  refine lv_aload_n hx hb dL_shaken_130 rfl (lv_at hl 1 rfl) ?_
  refine lv_iload hx hb dL_shaken_131 (lv_at hl 4 rfl) ?_
  obtain ⟨r_114, w_115, hq_116, hf⟩ := qbd2_s hf
  refine l_callSWi hC hR (l_ofHW hJ (mL_wouldMark hJ hst hq_116)) lNo_k trivial lp_C lp_C.symm qkl_686 qkl_687 qkl_18 qkl_688 qhd_L_wouldMark ⟨Nat.le_of_ble_eq_true rfl, Nat.le_of_ble_eq_true rfl⟩ hl.1 rfl (Nat.le_of_ble_eq_true rfl) dL_shaken_133 ⟨by show _ ≤ 4682; omega, by show _ ≤ 26971; omega⟩ (fun H locs hR hk => ?_)
  refine lv_aload hx hb dL_shaken_136 (lv_at hl 5 rfl) ?_
  refine lv_iconst (v := 0) hx hb dL_shaken_138 (by decide) ?_
  refine l_ild hC hR (lX_mx 0 rfl) (j := 0) (by decide) (by decide) dL_shaken_139 ?_
  refine lv_icmp_ne (tgt := 171) hx hb dL_shaken_140 (by decide) (fun c__117 => ?_) (fun c__117 => ?_)
  · have hf := qif_f hf c__117
    exact nomatch hf
  · have hf := qif_t hf c__117
    refine lv_aload_n hx hb dL_shaken_143 rfl (lv_at hl 1 rfl) ?_
    refine lv_iload hx hb dL_shaken_144 (lv_at hl 4 rfl) ?_
    refine lv_iconst (v := 0) hx hb dL_shaken_146 (by decide) ?_
    obtain ⟨r_118, w_119, hq_120, hf⟩ := qbd2_s hf
    refine l_callSWi hC hR (l_ofHW hJ (mL_wouldBreak hJ hst hq_120)) lNo_k trivial lp_C lp_C.symm qkl_701 qkl_702 qkl_18 qkl_703 qhd_L_wouldBreak ⟨Nat.le_of_ble_eq_true rfl, Nat.le_of_ble_eq_true rfl⟩ hl.1 rfl (Nat.le_of_ble_eq_true rfl) dL_shaken_147 ⟨by show _ ≤ 4682; omega, by show _ ≤ 26971; omega⟩ (fun H locs hR hk => ?_)
    refine lv_aload hx hb dL_shaken_150 (lv_at hl 5 rfl) ?_
    refine lv_iconst (v := 1) hx hb dL_shaken_152 (by decide) ?_
    refine l_ild hC hR (lX_mx 0 rfl) (j := 1) (by decide) (by decide) dL_shaken_153 ?_
    refine lv_icmp_ne (tgt := 171) hx hb dL_shaken_154 (by decide) (fun c__121 => ?_) (fun c__121 => ?_)
    · have hf := qif_f hf c__121
      exact nomatch hf
    · have hf := qif_t hf c__121
      refine lv_aload_n hx hb dL_shaken_157 rfl (lv_at hl 1 rfl) ?_
      refine lv_iload hx hb dL_shaken_158 (lv_at hl 4 rfl) ?_
      refine lv_iconst (v := 1) hx hb dL_shaken_160 (by decide) ?_
      obtain ⟨r_122, w_123, hq_124, hf⟩ := qbd2_s hf
      refine l_callSWi hC hR (l_ofHW hJ (mL_wouldBreak hJ hst hq_124)) lNo_k trivial lp_C lp_C.symm qkl_701 qkl_702 qkl_18 qkl_703 qhd_L_wouldBreak ⟨Nat.le_of_ble_eq_true rfl, Nat.le_of_ble_eq_true rfl⟩ hl.1 rfl (Nat.le_of_ble_eq_true rfl) dL_shaken_161 ⟨by show _ ≤ 4682; omega, by show _ ≤ 26971; omega⟩ (fun H locs hR hk => ?_)
      refine lv_aload hx hb dL_shaken_164 (lv_at hl 5 rfl) ?_
      refine lv_iconst (v := 1) hx hb dL_shaken_166 (by decide) ?_
      refine l_ild hC hR (lX_mx 0 rfl) (j := 1) (by decide) (by decide) dL_shaken_167 ?_
      refine lv_icmp_eq (tgt := 173) hx hb dL_shaken_168 (by decide) (fun c__125 => ?_) (fun c__125 => ?_)
      · have hf := qif_t hf c__125
        obtain ⟨x_126, ex_126⟩ : ∃ y : Int32, y = x4 + 1 := ⟨_, rfl⟩
        have hf := qnm_t hf ex_126
        refine lv_iinc (v := x_126) (lv' := [(4, .int x_126), (3, .int s0), (0, .ref (ad 228)), (1, .int x1), (2, .int x2), (6, .ref q83)]) hx hb dL_shaken_173 hl (k := 4) rfl (by rw [ex_126]; rfl) (by decide) rfl (fun ls hl => ?_)
        refine lv_goto (tgt := 10) hx hb dL_shaken_176 (by decide) ?_
        have hR := lR_pick hR [] (ex1 := []) (g1 := []) (by decide) rfl (Or.inl rfl)
        exact hk10 _ _ _ _ _ _ _ _ _ _ hf hR (lv_sub hl [2, 3, 4, 1, 0] rfl) (by omega) (by omega)
      · have hf := qif_f hf c__125
        exact nomatch hf
def fL_shaken_L102  (k10 : (qMem → Int32 → Int32 → Int32 → Int32 → Option (Int32 × qMem))) (w : qMem) (f83 : Nat → Int32) (x2 : Int32) (x3 : Int32) (x4 : Int32) (s0 : Int32) : Option (Int32 × qMem) :=
  qnm (if x2 < f83 0 then f83 0 else x2) fun (x_112 : Int32) =>
  if 0 ≤ x3 then
    fL_shaken_L129 k10 w f83 s0 x_112 x4 x3
  else
    if f83 1 ≤ 0 then
      fL_shaken_L129 k10 w f83 s0 x_112 x4 x3
    else
      fL_shaken_L129 k10 w f83 s0 x_112 x4 x4
set_option maxHeartbeats 4000000 in
set_option maxRecDepth 100000 in
theorem mL_shaken_L102 {p : Program} {l : Launch} {e : Env} {s : State} {m : MethodId} {args : Array Value} {below : List Frame} {meth : Method} {c : Code} {D : va_G} {G : Nat → ClassId} {ad : Nat → Nat} {w0 : qMem} {rF : Int32} {wF : qMem} {k10 : (qMem → Int32 → Int32 → Int32 → Int32 → Option (Int32 × qMem))} {B S : Nat} (hBM : B ≤ 4682) (hSM : S ≤ 26971) (hst : l.stackTraces = false) (hC : lCx p c cL_shaken 10 s m args meth RL D G ad (lX (qcells G ad w0) [] [])) (hr : meth.sig.returnType = some .boolean) (hk10 : ∀ (w : qMem) (x1 : Int32) (x2 : Int32) (x3 : Int32) (x4 : Int32) (cc cs : Nat) (H : Heap) (locs : List Loc) (ls : Array Slot), k10 w x1 x2 x3 x4 = some (rF, wF) → lR D (lX (qcells G ad w0) [] []) (lX (qcells G ad w) [] []) s H locs → lv_has ls 10 [(0, .ref (ad 228)), (1, .int x1), (2, .int x2), (3, .int x3), (4, .int x4)] → cc ≤ B → cs ≤ S → W p l e (qrm 10 4682 26971) s m args below meth c H locs cc cs (MQ below (lQi D (lX (qcells G ad w0) [] []) (lX (qcells G ad wF) [] []) s rF) args s 4682 26971 (va_A (lX (qcells G ad w0) [] []) s.heap.size)) (F0 m 10 ls [])) : ∀ (w : qMem) (f83 : Nat → Int32) (x2 : Int32) (x3 : Int32) (x4 : Int32) (s0 : Int32) (q83 : Nat) (cc cs : Nat) (H : Heap) (locs : List Loc) (ls : Array Slot), fL_shaken_L102 k10 w f83 x2 x3 x4 s0 = some (rF, wF) → lR D (lX (qcells G ad w0) [] []) (lX (qcells G ad w) [(q83, .inl (G 0, 2, .inl f83))] []) s H locs → lv_has ls 10 [(0, .ref (ad 228)), (2, .int x2), (3, .int x3), (4, .int x4), (6, .ref q83)] → cc + 3 ≤ B → cs + 18 ≤ S → cc ≤ 4682 → cs ≤ 26971 → W p l e (qrm 10 4682 26971) s m args below meth c H locs cc cs (MQ below (lQi D (lX (qcells G ad w0) [] []) (lX (qcells G ad wF) [] []) s rF) args s 4682 26971 (va_A (lX (qcells G ad w0) [] []) s.heap.size)) (F0 m 102 ls [.int s0]) := by
  have hx := hC.1
  have hb := hC.2.1
  have hJ := hC.2.2.2.2.2.2.2.1
  intro w f83 x2 x3 x4 s0 q83 cc cs H locs ls hf hR hl hcB hsB hcM hsM
  unfold fL_shaken_L102 at hf
  refine lv_istore_n (lv' := [(1, .int s0), (0, .ref (ad 228)), (2, .int x2), (3, .int x3), (4, .int x4), (6, .ref q83)]) hx hb dL_shaken_102 rfl hl (by decide) rfl (fun ls hl => ?_)
  refine lv_iload_n hx hb dL_shaken_103 rfl (lv_at hl 2 rfl) ?_
  refine lv_aload hx hb dL_shaken_104 (lv_at hl 5 rfl) ?_
  refine lv_iconst (v := 0) hx hb dL_shaken_106 (by decide) ?_
  refine l_ild hC hR (lX_mx 0 rfl) (j := 0) (by decide) (by decide) dL_shaken_107 ?_
  refine va_mmax hx hb (hC.2.2.1.trans hl.1.symm) hC.2.2.2.1 (hC.2.2.2.2.1 _ qkl_662) (hC.2.2.2.2.1 _ qk_663) (hC.2.2.2.2.1 _ qk_25) (hC.2.2.2.2.1 _ qk_664) (Nat.le_of_ble_eq_true rfl) (Nat.le_of_ble_eq_true rfl) (by show _ ≤ 4682; omega) (by show _ ≤ 26971; omega) dL_shaken_108 ?_
  refine lv_topi (fun x_112 ex_112 => ?_)
  have hf := qnm_t hf ex_112
  refine lv_istore_n (lv' := [(2, .int x_112), (1, .int s0), (0, .ref (ad 228)), (3, .int x3), (4, .int x4), (6, .ref q83)]) hx hb dL_shaken_111 rfl hl (by decide) rfl (fun ls hl => ?_)
  refine lv_iload_n hx hb dL_shaken_112 rfl (lv_at hl 3 rfl) ?_
  refine lv_if_ge (tgt := 128) hx hb dL_shaken_113 (by decide) (fun c__113 => ?_) (fun c__113 => ?_)
  · have hf := qif_t hf c__113
    refine lv_iload_n hx hb dL_shaken_128 rfl (lv_at hl 3 rfl) ?_
    exact mL_shaken_L129 (B := B) (S := S) hBM hSM hst hC hr hk10 _ _ _ _ _ _ _ _ _ _ _ _ hf hR (lv_sub hl [2, 1, 0, 4, 5] rfl) (by omega) (by omega) (by omega) (by omega)
  · have hf := qif_f hf c__113
    refine lv_aload hx hb dL_shaken_116 (lv_at hl 5 rfl) ?_
    refine lv_iconst (v := 1) hx hb dL_shaken_118 (by decide) ?_
    refine l_ild hC hR (lX_mx 0 rfl) (j := 1) (by decide) (by decide) dL_shaken_119 ?_
    refine lv_if_le (tgt := 128) hx hb dL_shaken_120 (by decide) (fun c__127 => ?_) (fun c__127 => ?_)
    · have hf := qif_t hf c__127
      refine lv_iload_n hx hb dL_shaken_128 rfl (lv_at hl 3 rfl) ?_
      exact mL_shaken_L129 (B := B) (S := S) hBM hSM hst hC hr hk10 _ _ _ _ _ _ _ _ _ _ _ _ hf hR (lv_sub hl [2, 1, 0, 4, 5] rfl) (by omega) (by omega) (by omega) (by omega)
    · have hf := qif_f hf c__127
      refine lv_iload hx hb dL_shaken_123 (lv_at hl 4 rfl) ?_
      refine lv_goto (tgt := 129) hx hb dL_shaken_125 (by decide) ?_
      exact mL_shaken_L129 (B := B) (S := S) hBM hSM hst hC hr hk10 _ _ _ _ _ _ _ _ _ _ _ _ hf hR (lv_sub hl [2, 1, 0, 4, 5] rfl) (by omega) (by omega) (by omega) (by omega)
def fL_shaken_L26  (k10 : (qMem → Int32 → Int32 → Int32 → Int32 → Option (Int32 × qMem))) : Nat → qMem → Nat → (Nat → Nat → Int32) → Int32 → Int32 → Int32 → Int32 → Int32 → Option (Int32 × qMem)
  | 0, _, _, _, _, _, _, _, _ => none
  | k + 1, w, n, M, x1, x2, x3, x4, x6 =>
    if (5 : Int32) ≤ x6 then
      qbd2 (fL_shocks n M x4) fun (f_108 : Nat → Int32) (M_109 : Nat → Nat → Int32) =>
      if f_108 0 ≤ x2 then
        fL_shaken_L102 k10 w f_108 x2 x3 x4 x1
      else
        fL_shaken_L102 k10 w f_108 x2 x3 x4 x4
    else
      qbd2 (fL_there n M x4 x6) fun (r_129 : Int32) (M_130 : Nat → Nat → Int32) =>
      qbd2 (fL_on w x4 x6 0) fun (r_131 : Int32) (w_132 : qMem) =>
      if r_131 = r_129 then
        qbd2 (fL_on w_132 x4 x6 1) fun (r_135 : Int32) (w_136 : qMem) =>
        if r_135 = r_129 then
          qnm (x6 + 1) fun (x_139 : Int32) =>
          fL_shaken_L26 k10 k w_136 n M_130 x1 x2 x3 x4 x_139
        else
          none
      else
        none
set_option maxHeartbeats 4000000 in
set_option maxRecDepth 100000 in
theorem mL_shaken_L26 {p : Program} {l : Launch} {e : Env} {s : State} {m : MethodId} {args : Array Value} {below : List Frame} {meth : Method} {c : Code} {D : va_G} {G : Nat → ClassId} {ad : Nat → Nat} {w0 : qMem} {rF : Int32} {wF : qMem} {k10 : (qMem → Int32 → Int32 → Int32 → Int32 → Option (Int32 × qMem))} {B S : Nat} (hBM : B ≤ 4682) (hSM : S ≤ 26971) (hst : l.stackTraces = false) (hC : lCx p c cL_shaken 10 s m args meth RL D G ad (lX (qcells G ad w0) [] [])) (hr : meth.sig.returnType = some .boolean) (hk10 : ∀ (w : qMem) (x1 : Int32) (x2 : Int32) (x3 : Int32) (x4 : Int32) (cc cs : Nat) (H : Heap) (locs : List Loc) (ls : Array Slot), k10 w x1 x2 x3 x4 = some (rF, wF) → lR D (lX (qcells G ad w0) [] []) (lX (qcells G ad w) [] []) s H locs → lv_has ls 10 [(0, .ref (ad 228)), (1, .int x1), (2, .int x2), (3, .int x3), (4, .int x4)] → cc ≤ B → cs ≤ S → W p l e (qrm 10 4682 26971) s m args below meth c H locs cc cs (MQ below (lQi D (lX (qcells G ad w0) [] []) (lX (qcells G ad wF) [] []) s rF) args s 4682 26971 (va_A (lX (qcells G ad w0) [] []) s.heap.size)) (F0 m 10 ls [])) : ∀ (k : Nat), ∀ (w : qMem) (n : Nat) (M : Nat → Nat → Int32) (x1 : Int32) (x2 : Int32) (x3 : Int32) (x4 : Int32) (x6 : Int32) (gq : Nat) (gr : Nat → Nat) (cc cs : Nat) (H : Heap) (locs : List Loc) (ls : Array Slot), fL_shaken_L26 k10 k w n M x1 x2 x3 x4 x6 = some (rF, wF) → lR D (lX (qcells G ad w0) [] []) (lX (qcells G ad w) [] (lgr G gq gr n M)) s H locs → lv_has ls 10 [(0, .ref (ad 228)), (1, .int x1), (2, .int x2), (3, .int x3), (4, .int x4), (5, .ref gq), (6, .int x6)] → cc + 3 * k + 31 ≤ B → cs + 17 * k + 165 ≤ S → cc + 3 * k ≤ 4682 → cs + 17 * k ≤ 26971 → W p l e (qrm 10 4682 26971) s m args below meth c H locs cc cs (MQ below (lQi D (lX (qcells G ad w0) [] []) (lX (qcells G ad wF) [] []) s rF) args s 4682 26971 (va_A (lX (qcells G ad w0) [] []) s.heap.size)) (F0 m 26 ls []) := by
  have hx := hC.1
  have hb := hC.2.1
  have hJ := hC.2.2.2.2.2.2.2.1
  intro k
  induction k with
  | zero => intro w n M x1 x2 x3 x4 x6 gq gr cc cs H locs ls hf; exact nomatch (show (none : Option (Int32 × qMem)) = some _ from hf)
  | succ k ih =>
    intro w n M x1 x2 x3 x4 x6 gq gr cc cs H locs ls hf hR hl hcB hsB hcM hsM
    rw [fL_shaken_L26] at hf
    refine lv_iload hx hb dL_shaken_26 (lv_at hl 6 rfl) ?_
    refine lv_iconst (v := 5) hx hb dL_shaken_28 (by decide) ?_
    refine lv_icmp_ge (tgt := 79) hx hb dL_shaken_29 (by decide) (fun c__106 => ?_) (fun c__106 => ?_)
    · have hf := qif_t hf c__106
      refine lv_aload hx hb dL_shaken_79 (lv_at hl 5 rfl) ?_
      refine lv_iload hx hb dL_shaken_81 (lv_at hl 4 rfl) ?_
      obtain ⟨f_108, M_109, hq_107, hf⟩ := qbd2_s hf
      refine l_callSr hC hR (mL_shocks hJ hst hq_107) lNo_k trivial lp_GR (fun _ _ => lp_Gz) qkl_682 qkl_683 qkl_18 qkl_684 qhd_L_shocks ⟨Nat.le_of_ble_eq_true rfl, Nat.le_of_ble_eq_true rfl⟩ hl.1 rfl (Nat.le_of_ble_eq_true rfl) dL_shaken_83 ⟨by show _ ≤ 4682; omega, by show _ ≤ 26971; omega⟩ (fun _ _ => lNo_k) (fun _ q_110 H locs _ hR hk _ => ?_)
      refine lv_astore (lv' := [(6, .ref q_110), (0, .ref (ad 228)), (1, .int x1), (2, .int x2), (3, .int x3), (4, .int x4), (5, .ref gq)]) hx hb dL_shaken_86 hl (by decide) rfl (fun ls hl => ?_)
      refine lv_aload hx hb dL_shaken_88 (lv_at hl 0 rfl) ?_
      refine lv_iconst (v := 0) hx hb dL_shaken_90 (by decide) ?_
      refine l_ild hC hR (lX_mx 0 rfl) (j := 0) (by decide) (by decide) dL_shaken_91 ?_
      refine lv_iload_n hx hb dL_shaken_92 rfl (lv_at hl 3 rfl) ?_
      refine lv_icmp_le (tgt := 101) hx hb dL_shaken_93 (by decide) (fun c__111 => ?_) (fun c__111 => ?_)
      · have hf := qif_t hf c__111
        refine lv_iload_n hx hb dL_shaken_101 rfl (lv_at hl 2 rfl) ?_
        have hR := lR_pick hR [0] (ex1 := [(q_110, .inl (G 0, 2, .inl f_108))]) (g1 := []) (by decide) rfl (Or.inr rfl)
        exact mL_shaken_L102 (B := B) (S := S) hBM hSM hst hC hr hk10 _ _ _ _ _ _ _ _ _ _ _ _ hf hR (lv_sub hl [1, 3, 4, 5, 0] rfl) (by omega) (by omega) (by omega) (by omega)
      · have hf := qif_f hf c__111
        refine lv_iload hx hb dL_shaken_96 (lv_at hl 5 rfl) ?_
        refine lv_goto (tgt := 102) hx hb dL_shaken_98 (by decide) ?_
        have hR := lR_pick hR [0] (ex1 := [(q_110, .inl (G 0, 2, .inl f_108))]) (g1 := []) (by decide) rfl (Or.inr rfl)
        exact mL_shaken_L102 (B := B) (S := S) hBM hSM hst hC hr hk10 _ _ _ _ _ _ _ _ _ _ _ _ hf hR (lv_sub hl [1, 3, 4, 5, 0] rfl) (by omega) (by omega) (by omega) (by omega)
    · have hf := qif_f hf c__106
      refine lv_aload hx hb dL_shaken_32 (lv_at hl 5 rfl) ?_
      refine lv_iload hx hb dL_shaken_34 (lv_at hl 4 rfl) ?_
      refine lv_iload hx hb dL_shaken_36 (lv_at hl 6 rfl) ?_
      obtain ⟨r_129, M_130, hq_128, hf⟩ := qbd2_s hf
      refine l_callSi hC hR (mL_there hJ hst hq_128) lNo_k trivial lp_GR lp_GR1 qkl_659 qkl_660 qkl_18 qkl_661 qhd_L_there ⟨Nat.le_of_ble_eq_true rfl, Nat.le_of_ble_eq_true rfl⟩ hl.1 rfl (Nat.le_of_ble_eq_true rfl) dL_shaken_38 ⟨by show _ ≤ 4682; omega, by show _ ≤ 26971; omega⟩ (fun H locs hR hk => ?_)
      refine lv_istore (lv' := [(7, .int r_129), (0, .ref (ad 228)), (1, .int x1), (2, .int x2), (3, .int x3), (4, .int x4), (5, .ref gq), (6, .int x6)]) hx hb dL_shaken_41 hl (by decide) rfl (fun ls hl => ?_)
      refine lv_aload_n hx hb dL_shaken_43 rfl (lv_at hl 1 rfl) ?_
      refine lv_iload hx hb dL_shaken_44 (lv_at hl 5 rfl) ?_
      refine lv_iload hx hb dL_shaken_46 (lv_at hl 7 rfl) ?_
      refine lv_iconst (v := 0) hx hb dL_shaken_48 (by decide) ?_
      obtain ⟨r_131, w_132, hq_133, hf⟩ := qbd2_s hf
      refine l_callSWi hC hR (l_ofHW hJ (mL_on hJ hst hq_133)) lNo_k trivial lp_C lp_C.symm qkl_665 qkl_666 qkl_18 qkl_667 qhd_L_on ⟨Nat.le_of_ble_eq_true rfl, Nat.le_of_ble_eq_true rfl⟩ hl.1 rfl (Nat.le_of_ble_eq_true rfl) dL_shaken_49 ⟨by show _ ≤ 4682; omega, by show _ ≤ 26971; omega⟩ (fun H locs hR hk => ?_)
      refine lv_iload hx hb dL_shaken_52 (lv_at hl 0 rfl) ?_
      refine lv_icmp_ne (tgt := 71) hx hb dL_shaken_54 (by decide) (fun c__134 => ?_) (fun c__134 => ?_)
      · have hf := qif_f hf c__134
        exact nomatch hf
      · have hf := qif_t hf c__134
        refine lv_aload_n hx hb dL_shaken_57 rfl (lv_at hl 1 rfl) ?_
        refine lv_iload hx hb dL_shaken_58 (lv_at hl 5 rfl) ?_
        refine lv_iload hx hb dL_shaken_60 (lv_at hl 7 rfl) ?_
        refine lv_iconst (v := 1) hx hb dL_shaken_62 (by decide) ?_
        obtain ⟨r_135, w_136, hq_137, hf⟩ := qbd2_s hf
        refine l_callSWi hC hR (l_ofHW hJ (mL_on hJ hst hq_137)) lNo_k trivial lp_C lp_C.symm qkl_665 qkl_666 qkl_18 qkl_667 qhd_L_on ⟨Nat.le_of_ble_eq_true rfl, Nat.le_of_ble_eq_true rfl⟩ hl.1 rfl (Nat.le_of_ble_eq_true rfl) dL_shaken_63 ⟨by show _ ≤ 4682; omega, by show _ ≤ 26971; omega⟩ (fun H locs hR hk => ?_)
        refine lv_iload hx hb dL_shaken_66 (lv_at hl 0 rfl) ?_
        refine lv_icmp_eq (tgt := 73) hx hb dL_shaken_68 (by decide) (fun c__138 => ?_) (fun c__138 => ?_)
        · have hf := qif_t hf c__138
          obtain ⟨x_139, ex_139⟩ : ∃ y : Int32, y = x6 + 1 := ⟨_, rfl⟩
          have hf := qnm_t hf ex_139
          refine lv_iinc (v := x_139) (lv' := [(6, .int x_139), (7, .int r_129), (0, .ref (ad 228)), (1, .int x1), (2, .int x2), (3, .int x3), (4, .int x4), (5, .ref gq)]) hx hb dL_shaken_73 hl (k := 7) rfl (by rw [ex_139]; rfl) (by decide) rfl (fun ls hl => ?_)
          refine lv_goto (tgt := 26) hx hb dL_shaken_76 (by decide) ?_
          exact ih _ _ _ _ _ _ _ _ _ _ _ _ _ _ _ hf hR (lv_sub hl [2, 3, 4, 5, 6, 7, 0] rfl) (by omega) (by omega) (by omega) (by omega)
        · have hf := qif_f hf c__138
          exact nomatch hf
def fL_shaken_L10   : Nat → qMem → Int32 → Int32 → Int32 → Int32 → Option (Int32 × qMem)
  | 0, _, _, _, _, _ => none
  | k + 1, w, x1, x2, x3, x4 =>
    if (10 : Int32) ≤ x4 then
      qbd3 (fX5_account w 0) fun (k_4 : Nat) (r_3 : Int32) (w_5 : qMem) =>
      if k_4 = 0 then
      if qin r_3 13 = true then
      qnm ((r_3).toNatClampNeg) fun (n_9 : Nat) =>
      qbd3 (fL_props w_5) fun (n_11 : Nat) (M_12 : Nat → Nat → Int32) (w_13 : qMem) =>
      fL_shaken_L201 31 w_13 n_11 M_12 n_9 (fun _ => 0) x1 x3 r_3 1
      else none
      else none
    else
      qbd3 (fL_props w) fun (n_101 : Nat) (M_102 : Nat → Nat → Int32) (w_103 : qMem) =>
      fL_shaken_L26 (fL_shaken_L10 k) 6 w_103 n_101 M_102 x1 x2 x3 x4 0
set_option maxHeartbeats 4000000 in
set_option maxRecDepth 100000 in
theorem mL_shaken_L10 {p : Program} {l : Launch} {e : Env} {s : State} {m : MethodId} {args : Array Value} {below : List Frame} {meth : Method} {c : Code} {D : va_G} {G : Nat → ClassId} {ad : Nat → Nat} {w0 : qMem} {rF : Int32} {wF : qMem} (hst : l.stackTraces = false) (hC : lCx p c cL_shaken 10 s m args meth RL D G ad (lX (qcells G ad w0) [] [])) (hr : meth.sig.returnType = some .boolean) : ∀ (k : Nat), ∀ (w : qMem) (x1 : Int32) (x2 : Int32) (x3 : Int32) (x4 : Int32) (cc cs : Nat) (H : Heap) (locs : List Loc) (ls : Array Slot), fL_shaken_L10 k w x1 x2 x3 x4 = some (rF, wF) → lR D (lX (qcells G ad w0) [] []) (lX (qcells G ad w) [] []) s H locs → lv_has ls 10 [(0, .ref (ad 228)), (1, .int x1), (2, .int x2), (3, .int x3), (4, .int x4)] → cc + 271 * k + 1972 ≤ 4682 → cs + 1617 * k + 10801 ≤ 26971 → W p l e (qrm 10 4682 26971) s m args below meth c H locs cc cs (MQ below (lQi D (lX (qcells G ad w0) [] []) (lX (qcells G ad wF) [] []) s rF) args s 4682 26971 (va_A (lX (qcells G ad w0) [] []) s.heap.size)) (F0 m 10 ls []) := by
  have hx := hC.1
  have hb := hC.2.1
  have hJ := hC.2.2.2.2.2.2.2.1
  intro k
  induction k with
  | zero => intro w x1 x2 x3 x4 cc cs H locs ls hf; exact nomatch (show (none : Option (Int32 × qMem)) = some _ from hf)
  | succ k ih =>
    intro w x1 x2 x3 x4 cc cs H locs ls hf hR hl hcM hsM
    rw [fL_shaken_L10] at hf
    refine lv_iload hx hb dL_shaken_10 (lv_at hl 4 rfl) ?_
    refine lv_bipush (v := 10) hx hb dL_shaken_12 (by decide) ?_
    refine lv_icmp_ge (tgt := 179) hx hb dL_shaken_14 (by decide) (fun c__1 => ?_) (fun c__1 => ?_)
    · have hf := qif_t hf c__1
      refine lv_aload_n hx hb dL_shaken_179 rfl (lv_at hl 0 rfl) ?_
      refine lv_iconst (v := 0) hx hb dL_shaken_180 (by decide) ?_
      obtain ⟨k_4, r_3, w_5, hq_2, hf⟩ := qbd3_s hf
      obtain ⟨h_6, hf⟩ := qgd hf
      refine l_callVi hC hR (l_ofXi hJ (mX5_account hJ hst hq_2) h_6) lNo_k trivial lp_C lp_C.symm (l_recv hC hR (lX_mc (k := 228) (by decide)) rfl) qkl_535 qk_536 qk_537 qk_19 qk_538 qhd_X5_account ⟨Nat.le_of_ble_eq_true rfl, Nat.le_of_ble_eq_true rfl⟩ hl.1 rfl (Nat.le_of_ble_eq_true rfl) dL_shaken_181 ⟨by show _ ≤ 4682; omega, by show _ ≤ 26971; omega⟩ (fun H locs hR hk => ?_)
      refine lv_istore (lv' := [(4, .int r_3), (0, .ref (ad 228)), (1, .int x1), (2, .int x2), (3, .int x3)]) hx hb dL_shaken_184 hl (by decide) rfl (fun ls hl => ?_)
      refine lv_iload hx hb dL_shaken_186 (lv_at hl 0 rfl) ?_
      obtain ⟨g_8, hf⟩ := qgd hf
      obtain ⟨n_9, en_9⟩ : ∃ y : Nat, y = (r_3).toNatClampNeg := ⟨_, rfl⟩
      have hf := qnm_t hf en_9
      have hn_9 : n_9 < 13 := by rw [en_9]; exact lq_lt g_8
      refine l_newa (atype := .int) hC hR (t := 0) (N := n_9) (E := .inl (fun _ => 0)) rfl qka_int rfl (fun cA => rfl) (lq_nn g_8) en_9.symm (by show n_9 * 4 ≤ 536870912; omega) (by show _ ≤ 4682; omega) (by show _ ≤ 26971; omega) dL_shaken_188 (fun q_7 H hR hk => ?_)
      refine lv_astore (lv' := [(5, .ref q_7), (4, .int r_3), (0, .ref (ad 228)), (1, .int x1), (2, .int x2), (3, .int x3)]) hx hb dL_shaken_190 hl (by decide) rfl (fun ls hl => ?_)
      refine lv_aload_n hx hb dL_shaken_192 rfl (lv_at hl 2 rfl) ?_
      obtain ⟨n_11, M_12, w_13, hq_10, hf⟩ := qbd3_s hf
      refine l_callSr hC hR (mL_props hJ hst hq_10) lNo_k trivial lp_CP (fun _ _ => lp_CP1) qkl_642 qkl_643 qkl_18 qkl_644 qhd_L_props ⟨Nat.le_of_ble_eq_true rfl, Nat.le_of_ble_eq_true rfl⟩ hl.1 rfl (Nat.le_of_ble_eq_true rfl) dL_shaken_193 ⟨by show _ ≤ 4682; omega, by show _ ≤ 26971; omega⟩ (fun _ _ => lNo_k) (fun u_15 q_14 H locs _ hR hk _ => ?_)
      refine lv_astore (lv' := [(6, .ref q_14), (5, .ref q_7), (4, .int r_3), (0, .ref (ad 228)), (1, .int x1), (2, .int x2), (3, .int x3)]) hx hb dL_shaken_196 hl (by decide) rfl (fun ls hl => ?_)
      refine lv_iconst (v := 1) hx hb dL_shaken_198 (by decide) ?_
      refine lv_istore (lv' := [(7, .int 1), (6, .ref q_14), (5, .ref q_7), (4, .int r_3), (0, .ref (ad 228)), (1, .int x1), (2, .int x2), (3, .int x3)]) hx hb dL_shaken_199 hl (by decide) rfl (fun ls hl => ?_)
      exact mL_shaken_L201 hst hC hr 31 _ _ _ _ _ _ _ _ _ _ _ _ _ _ _ _ _ hf hR (lv_sub hl [4, 5, 7, 3, 2, 1, 0] rfl) (by omega) (by omega)
    · have hf := qif_f hf c__1
      refine lv_aload_n hx hb dL_shaken_17 rfl (lv_at hl 0 rfl) ?_
      obtain ⟨n_101, M_102, w_103, hq_100, hf⟩ := qbd3_s hf
      refine l_callSr hC hR (mL_props hJ hst hq_100) lNo_k trivial lp_CP (fun _ _ => lp_CP1) qkl_642 qkl_643 qkl_18 qkl_644 qhd_L_props ⟨Nat.le_of_ble_eq_true rfl, Nat.le_of_ble_eq_true rfl⟩ hl.1 rfl (Nat.le_of_ble_eq_true rfl) dL_shaken_18 ⟨by show _ ≤ 4682; omega, by show _ ≤ 26971; omega⟩ (fun _ _ => lNo_k) (fun u_105 q_104 H locs _ hR hk _ => ?_)
      refine lv_astore (lv' := [(5, .ref q_104), (0, .ref (ad 228)), (1, .int x1), (2, .int x2), (3, .int x3), (4, .int x4)]) hx hb dL_shaken_21 hl (by decide) rfl (fun ls hl => ?_)
      refine lv_iconst (v := 0) hx hb dL_shaken_23 (by decide) ?_
      refine lv_istore (lv' := [(6, .int 0), (5, .ref q_104), (0, .ref (ad 228)), (1, .int x1), (2, .int x2), (3, .int x3), (4, .int x4)]) hx hb dL_shaken_24 hl (by decide) rfl (fun ls hl => ?_)
      exact mL_shaken_L26 (B := cc + 271) (S := cs + 1617) (by omega) (by omega) hst hC hr (fun y0 y1 y2 y3 y4 cc2 cs2 H2 locs2 ls2 hf2 hR2 hl2 hc2 hs2 => ih y0 y1 y2 y3 y4 cc2 cs2 H2 locs2 ls2 hf2 hR2 hl2 (by omega) (by omega)) 6 _ _ _ _ _ _ _ _ _ _ _ _ _ _ _ hf hR (lv_sub hl [2, 3, 4, 5, 6, 1, 0] rfl) (by omega) (by omega) (by omega) (by omega)
def fL_shaken (w0 : qMem) : Option (Int32 × qMem) :=
  fL_shaken_L10 10 w0 0 (-1) (-13) 1
theorem qhd_L_shaken : yL_shaken.cls ≠ "java/lang/invoke/MethodHandle" ∧ yL_shaken.cls ≠ "java/lang/invoke/VarHandle" ∧ (parseMethodDescriptor yL_shaken.desc).map (fun d => d.parameters.length) = some 1 := ⟨by decide +kernel, by decide +kernel, by decide +kernel⟩
set_option maxHeartbeats 4000000 in
set_option maxRecDepth 100000 in
theorem mL_shaken {l : Launch} {D : va_G} {G : Nat → ClassId} {ad : Nat → Nat} {w0 : qMem} {rF : Int32} {wF : qMem} (hJ : qInj ad) (hst : l.stackTraces = false) (hf : fL_shaken w0 = some (rF, wF)) : lCM l D G ad yL_shaken (Cond.code yL_shaken cL_shaken 10 (some .boolean)) 10 4682 26971 [.ref (ad 228)] (lX (qcells G ad w0) [] []) (fun _ _ _ => True) (fun st => lQi D (lX (qcells G ad w0) [] []) (lX (qcells G ad wF) [] []) st rF) := by
  refine l_start RL rfl (by decide +kernel) hJ (fun a b h => by simp only [lQi, lQl, lQr, h]) (Nat.le_of_ble_eq_true rfl) ?_
  intro p e s m args below meth c ls hC hr _ hE hR hl
  have hx := hC.1
  have hb := hC.2.1
  have hl : lv_has ls 10 [(0, .ref (ad 228))] := hl
  unfold fL_shaken at hf
  refine lv_iconst (v := 0) hx hb dL_shaken_0 (by decide) ?_
  refine lv_istore_n (lv' := [(1, .int 0), (0, .ref (ad 228))]) hx hb dL_shaken_1 rfl hl (by decide) rfl (fun ls hl => ?_)
  refine lv_iconst (v := (-1)) hx hb dL_shaken_2 (by decide) ?_
  refine lv_istore_n (lv' := [(2, .int (-1)), (1, .int 0), (0, .ref (ad 228))]) hx hb dL_shaken_3 rfl hl (by decide) rfl (fun ls hl => ?_)
  refine lv_bipush (v := (-13)) hx hb dL_shaken_4 (by decide) ?_
  refine lv_istore_n (lv' := [(3, .int (-13)), (2, .int (-1)), (1, .int 0), (0, .ref (ad 228))]) hx hb dL_shaken_6 rfl hl (by decide) rfl (fun ls hl => ?_)
  refine lv_iconst (v := 1) hx hb dL_shaken_7 (by decide) ?_
  refine lv_istore (lv' := [(4, .int 1), (3, .int (-13)), (2, .int (-1)), (1, .int 0), (0, .ref (ad 228))]) hx hb dL_shaken_8 hl (by decide) rfl (fun ls hl => ?_)
  exact mL_shaken_L10 hst hC hr 10 _ _ _ _ _ _ _ _ _ _ hf hR (lv_sub hl [4, 3, 2, 1, 0] rfl) (by omega) (by omega)
