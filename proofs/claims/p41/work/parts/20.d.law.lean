def fL_ranks_L657   (w : qMem) (n : Nat) (M : Nat → Nat → Int32) (x4 : Int32) (x6 : Int32) (x7 : Int32) (s0 : Int32) : Option (Int32 × qMem) :=
  if s0 = 0 then
    some (0, w)
  else
    if x6 = Int32.ofNat n then
      qbd3 (fX5_account w 1) fun (k_31 : Nat) (r_30 : Int32) (w_32 : qMem) =>
      if k_31 = 0 then
      if r_30 = x7 then
        qbd3 (fX5_account w_32 2) fun (k_37 : Nat) (r_36 : Int32) (w_38 : qMem) =>
        if k_37 = 0 then
        qbd2 (fL_many n M 2) fun (r_41 : Int32) (M_42 : Nat → Nat → Int32) =>
        if r_36 = r_41 then
          qbd3 (fX5_account w_38 3) fun (k_46 : Nat) (r_45 : Int32) (w_47 : qMem) =>
          if k_46 = 0 then
          qbd2 (fL_many n M_42 3) fun (r_50 : Int32) (M_51 : Nat → Nat → Int32) =>
          if r_45 = r_50 then
            qbd3 (fX5_account w_47 4) fun (k_55 : Nat) (r_54 : Int32) (w_56 : qMem) =>
            if k_55 = 0 then
            if r_54 = x4 then
              qbd3 (fX5_account w_56 9) fun (k_61 : Nat) (r_60 : Int32) (w_62 : qMem) =>
              if k_61 = 0 then
              if r_60 = x4 then
                qbd2 (fL_onFloor w_62 0 0) fun (r_65 : Int32) (w_66 : qMem) =>
                if r_65 = (-12) then
                  qbd2 (fL_onFloor w_66 1 5) fun (r_69 : Int32) (w_70 : qMem) =>
                  if r_69 = (-12) then
                    qbd2 (fL_cupAt w_70 (-1)) fun (r_73 : Int32) (w_74 : qMem) =>
                    if r_73 = (-13) then
                      qbd2 (fL_of w_74 (Int32.ofNat n) 9) fun (r_77 : Int32) (w_78 : qMem) =>
                      if r_77 = (-11) then
                        qbd2 (fL_isBroken w_78 (-1)) fun (r_81 : Int32) (w_82 : qMem) =>
                        if r_81 = (-11) then
                          some (1, w_82)
                        else
                          some (0, w_82)
                      else
                        some (0, w_78)
                    else
                      some (0, w_74)
                  else
                    some (0, w_70)
                else
                  some (0, w_66)
              else
                some (0, w_62)
              else none
            else
              some (0, w_56)
            else none
          else
            some (0, w_47)
          else none
        else
          some (0, w_38)
        else none
      else
        some (0, w_32)
      else none
    else
      some (0, w)
set_option maxHeartbeats 4000000 in
set_option maxRecDepth 100000 in
theorem mL_ranks_L657 {p : Program} {l : Launch} {e : Env} {s : State} {m : MethodId} {args : Array Value} {below : List Frame} {meth : Method} {c : Code} {D : va_G} {G : Nat → ClassId} {ad : Nat → Nat} {w0 : qMem} {rF : Int32} {wF : qMem} (hst : l.stackTraces = false) (hC : lCx p c cL_ranks 13 s m args meth RL D G ad (lX (qcells G ad w0) [] [])) (hr : meth.sig.returnType = some .boolean) : ∀ (w : qMem) (n : Nat) (M : Nat → Nat → Int32) (x4 : Int32) (x6 : Int32) (x7 : Int32) (s0 : Int32) (gq : Nat) (gr : Nat → Nat) (cc cs : Nat) (H : Heap) (locs : List Loc) (ls : Array Slot), fL_ranks_L657 w n M x4 x6 x7 s0 = some (rF, wF) → lR D (lX (qcells G ad w0) [] []) (lX (qcells G ad w) [] (lgr G gq gr n M)) s H locs → lv_has ls 13 [(0, .ref (ad 228)), (1, .ref gq), (4, .int x4), (6, .int x6), (7, .int x7)] → cc + 11 ≤ 344 → cs + 66 ≤ 2078 → W p l e (qrm 10 344 2078) s m args below meth c H locs cc cs (MQ below (lQi D (lX (qcells G ad w0) [] []) (lX (qcells G ad wF) [] []) s rF) args s 344 2078 (va_A (lX (qcells G ad w0) [] []) s.heap.size)) (F0 m 657 ls [.int s0]) := by
  have hx := hC.1
  have hb := hC.2.1
  have hJ := hC.2.2.2.2.2.2.2.1
  intro w n M x4 x6 x7 s0 gq gr cc cs H locs ls hf hR hl hcM hsM
  unfold fL_ranks_L657 at hf
  refine lv_istore (lv' := [(8, .int s0), (0, .ref (ad 228)), (1, .ref gq), (4, .int x4), (6, .int x6), (7, .int x7)]) hx hb dL_ranks_657 hl (by decide) rfl (fun ls hl => ?_)
  refine lv_iload hx hb dL_ranks_659 (lv_at hl 0 rfl) ?_
  refine lv_if_eq (tgt := 787) hx hb dL_ranks_661 (by decide) (fun c__27 => ?_) (fun c__27 => ?_)
  · have hf := qif_t hf c__27
    refine lv_iconst (v := 0) hx hb dL_ranks_787 (by decide) ?_
    have hR := lR_pick hR [] (ex1 := []) (g1 := []) (by decide) rfl (Or.inr rfl)
    obtain ⟨e1, e2⟩ := qso2 hf
    exact l_iret hC hR hr (by decide) e1 (by rw [e2]) dL_ranks_788 (by omega) (by omega)
  · have hf := qif_f hf c__27
    refine lv_iload hx hb dL_ranks_664 (lv_at hl 4 rfl) ?_
    refine lv_aload_n hx hb dL_ranks_666 rfl (lv_at hl 2 rfl) ?_
    refine l_alen hC hR lgr_m0 rfl rfl dL_ranks_667 ?_
    refine lv_icmp_ne (tgt := 787) hx hb dL_ranks_668 (by decide) (fun c__28 => ?_) (fun c__28 => ?_)
    · have hf := qif_f hf c__28
      refine lv_iconst (v := 0) hx hb dL_ranks_787 (by decide) ?_
      have hR := lR_pick hR [] (ex1 := []) (g1 := []) (by decide) rfl (Or.inr rfl)
      obtain ⟨e1, e2⟩ := qso2 hf
      exact l_iret hC hR hr (by decide) e1 (by rw [e2]) dL_ranks_788 (by omega) (by omega)
    · have hf := qif_t hf c__28
      refine lv_aload_n hx hb dL_ranks_671 rfl (lv_at hl 1 rfl) ?_
      refine lv_iconst (v := 1) hx hb dL_ranks_672 (by decide) ?_
      obtain ⟨k_31, r_30, w_32, hq_29, hf⟩ := qbd3_s hf
      obtain ⟨h_33, hf⟩ := qgd hf
      refine l_callVi hC hR (l_ofXi hJ (mX5_account hJ hst hq_29) h_33) lNo_k trivial lp_C lp_C.symm (l_recv hC hR (lX_mc (k := 228) (by decide)) rfl) qkl_535 qk_536 qk_537 qk_19 qk_538 qhd_X5_account ⟨Nat.le_of_ble_eq_true rfl, Nat.le_of_ble_eq_true rfl⟩ hl.1 rfl (Nat.le_of_ble_eq_true rfl) dL_ranks_673 ⟨by show _ ≤ 344; omega, by show _ ≤ 2078; omega⟩ (fun H locs hR hk => ?_)
      refine lv_iload hx hb dL_ranks_676 (lv_at hl 5 rfl) ?_
      refine lv_icmp_ne (tgt := 787) hx hb dL_ranks_678 (by decide) (fun c__34 => ?_) (fun c__34 => ?_)
      · have hf := qif_f hf c__34
        refine lv_iconst (v := 0) hx hb dL_ranks_787 (by decide) ?_
        have hR := lR_pick hR [] (ex1 := []) (g1 := []) (by decide) rfl (Or.inr rfl)
        obtain ⟨e1, e2⟩ := qso2 hf
        exact l_iret hC hR hr (by decide) e1 (by rw [e2]) dL_ranks_788 (by omega) (by omega)
      · have hf := qif_t hf c__34
        refine lv_aload_n hx hb dL_ranks_681 rfl (lv_at hl 1 rfl) ?_
        refine lv_iconst (v := 2) hx hb dL_ranks_682 (by decide) ?_
        obtain ⟨k_37, r_36, w_38, hq_35, hf⟩ := qbd3_s hf
        obtain ⟨h_39, hf⟩ := qgd hf
        refine l_callVi hC hR (l_ofXi hJ (mX5_account hJ hst hq_35) h_39) lNo_k trivial lp_C lp_C.symm (l_recv hC hR (lX_mc (k := 228) (by decide)) rfl) qkl_535 qk_536 qk_537 qk_19 qk_538 qhd_X5_account ⟨Nat.le_of_ble_eq_true rfl, Nat.le_of_ble_eq_true rfl⟩ hl.1 rfl (Nat.le_of_ble_eq_true rfl) dL_ranks_683 ⟨by show _ ≤ 344; omega, by show _ ≤ 2078; omega⟩ (fun H locs hR hk => ?_)
        refine lv_aload_n hx hb dL_ranks_686 rfl (lv_at hl 2 rfl) ?_
        refine lv_iconst (v := 2) hx hb dL_ranks_687 (by decide) ?_
        obtain ⟨r_41, M_42, hq_40, hf⟩ := qbd2_s hf
        refine l_callSi hC hR (mL_many hJ hst hq_40) lNo_k trivial lp_GR lp_GR1 qkl_747 qkl_748 qkl_18 qkl_749 qhd_L_many ⟨Nat.le_of_ble_eq_true rfl, Nat.le_of_ble_eq_true rfl⟩ hl.1 rfl (Nat.le_of_ble_eq_true rfl) dL_ranks_688 ⟨by show _ ≤ 344; omega, by show _ ≤ 2078; omega⟩ (fun H locs hR hk => ?_)
        refine lv_icmp_ne (tgt := 787) hx hb dL_ranks_691 (by decide) (fun c__43 => ?_) (fun c__43 => ?_)
        · have hf := qif_f hf c__43
          refine lv_iconst (v := 0) hx hb dL_ranks_787 (by decide) ?_
          have hR := lR_pick hR [] (ex1 := []) (g1 := []) (by decide) rfl (Or.inr rfl)
          obtain ⟨e1, e2⟩ := qso2 hf
          exact l_iret hC hR hr (by decide) e1 (by rw [e2]) dL_ranks_788 (by omega) (by omega)
        · have hf := qif_t hf c__43
          refine lv_aload_n hx hb dL_ranks_694 rfl (lv_at hl 1 rfl) ?_
          refine lv_iconst (v := 3) hx hb dL_ranks_695 (by decide) ?_
          obtain ⟨k_46, r_45, w_47, hq_44, hf⟩ := qbd3_s hf
          obtain ⟨h_48, hf⟩ := qgd hf
          refine l_callVi hC hR (l_ofXi hJ (mX5_account hJ hst hq_44) h_48) lNo_k trivial lp_C lp_C.symm (l_recv hC hR (lX_mc (k := 228) (by decide)) rfl) qkl_535 qk_536 qk_537 qk_19 qk_538 qhd_X5_account ⟨Nat.le_of_ble_eq_true rfl, Nat.le_of_ble_eq_true rfl⟩ hl.1 rfl (Nat.le_of_ble_eq_true rfl) dL_ranks_696 ⟨by show _ ≤ 344; omega, by show _ ≤ 2078; omega⟩ (fun H locs hR hk => ?_)
          refine lv_aload_n hx hb dL_ranks_699 rfl (lv_at hl 2 rfl) ?_
          refine lv_iconst (v := 3) hx hb dL_ranks_700 (by decide) ?_
          obtain ⟨r_50, M_51, hq_49, hf⟩ := qbd2_s hf
          refine l_callSi hC hR (mL_many hJ hst hq_49) lNo_k trivial lp_GR lp_GR1 qkl_747 qkl_748 qkl_18 qkl_749 qhd_L_many ⟨Nat.le_of_ble_eq_true rfl, Nat.le_of_ble_eq_true rfl⟩ hl.1 rfl (Nat.le_of_ble_eq_true rfl) dL_ranks_701 ⟨by show _ ≤ 344; omega, by show _ ≤ 2078; omega⟩ (fun H locs hR hk => ?_)
          refine lv_icmp_ne (tgt := 787) hx hb dL_ranks_704 (by decide) (fun c__52 => ?_) (fun c__52 => ?_)
          · have hf := qif_f hf c__52
            refine lv_iconst (v := 0) hx hb dL_ranks_787 (by decide) ?_
            have hR := lR_pick hR [] (ex1 := []) (g1 := []) (by decide) rfl (Or.inr rfl)
            obtain ⟨e1, e2⟩ := qso2 hf
            exact l_iret hC hR hr (by decide) e1 (by rw [e2]) dL_ranks_788 (by omega) (by omega)
          · have hf := qif_t hf c__52
            refine lv_aload_n hx hb dL_ranks_707 rfl (lv_at hl 1 rfl) ?_
            refine lv_iconst (v := 4) hx hb dL_ranks_708 (by decide) ?_
            obtain ⟨k_55, r_54, w_56, hq_53, hf⟩ := qbd3_s hf
            obtain ⟨h_57, hf⟩ := qgd hf
            refine l_callVi hC hR (l_ofXi hJ (mX5_account hJ hst hq_53) h_57) lNo_k trivial lp_C lp_C.symm (l_recv hC hR (lX_mc (k := 228) (by decide)) rfl) qkl_535 qk_536 qk_537 qk_19 qk_538 qhd_X5_account ⟨Nat.le_of_ble_eq_true rfl, Nat.le_of_ble_eq_true rfl⟩ hl.1 rfl (Nat.le_of_ble_eq_true rfl) dL_ranks_709 ⟨by show _ ≤ 344; omega, by show _ ≤ 2078; omega⟩ (fun H locs hR hk => ?_)
            refine lv_iload hx hb dL_ranks_712 (lv_at hl 3 rfl) ?_
            refine lv_icmp_ne (tgt := 787) hx hb dL_ranks_714 (by decide) (fun c__58 => ?_) (fun c__58 => ?_)
            · have hf := qif_f hf c__58
              refine lv_iconst (v := 0) hx hb dL_ranks_787 (by decide) ?_
              have hR := lR_pick hR [] (ex1 := []) (g1 := []) (by decide) rfl (Or.inr rfl)
              obtain ⟨e1, e2⟩ := qso2 hf
              exact l_iret hC hR hr (by decide) e1 (by rw [e2]) dL_ranks_788 (by omega) (by omega)
            · have hf := qif_t hf c__58
              refine lv_aload_n hx hb dL_ranks_717 rfl (lv_at hl 1 rfl) ?_
              refine lv_bipush (v := 9) hx hb dL_ranks_718 (by decide) ?_
              obtain ⟨k_61, r_60, w_62, hq_59, hf⟩ := qbd3_s hf
              obtain ⟨h_63, hf⟩ := qgd hf
              refine l_callVi hC hR (l_ofXi hJ (mX5_account hJ hst hq_59) h_63) lNo_k trivial lp_C lp_C.symm (l_recv hC hR (lX_mc (k := 228) (by decide)) rfl) qkl_535 qk_536 qk_537 qk_19 qk_538 qhd_X5_account ⟨Nat.le_of_ble_eq_true rfl, Nat.le_of_ble_eq_true rfl⟩ hl.1 rfl (Nat.le_of_ble_eq_true rfl) dL_ranks_720 ⟨by show _ ≤ 344; omega, by show _ ≤ 2078; omega⟩ (fun H locs hR hk => ?_)
              refine lv_iload hx hb dL_ranks_723 (lv_at hl 3 rfl) ?_
              refine lv_icmp_ne (tgt := 787) hx hb dL_ranks_725 (by decide) (fun c__64 => ?_) (fun c__64 => ?_)
              · have hf := qif_f hf c__64
                refine lv_iconst (v := 0) hx hb dL_ranks_787 (by decide) ?_
                have hR := lR_pick hR [] (ex1 := []) (g1 := []) (by decide) rfl (Or.inr rfl)
                obtain ⟨e1, e2⟩ := qso2 hf
                exact l_iret hC hR hr (by decide) e1 (by rw [e2]) dL_ranks_788 (by omega) (by omega)
              · have hf := qif_t hf c__64
                refine lv_aload_n hx hb dL_ranks_728 rfl (lv_at hl 1 rfl) ?_
                refine lv_iconst (v := 0) hx hb dL_ranks_729 (by decide) ?_
                refine lv_iconst (v := 0) hx hb dL_ranks_730 (by decide) ?_
                obtain ⟨r_65, w_66, hq_67, hf⟩ := qbd2_s hf
                refine l_callSWi hC hR (l_ofHW hJ (mL_onFloor hJ hst hq_67)) lNo_k trivial lp_C lp_C.symm qkl_830 qkl_831 qkl_18 qkl_832 qhd_L_onFloor ⟨Nat.le_of_ble_eq_true rfl, Nat.le_of_ble_eq_true rfl⟩ hl.1 rfl (Nat.le_of_ble_eq_true rfl) dL_ranks_731 ⟨by show _ ≤ 344; omega, by show _ ≤ 2078; omega⟩ (fun H locs hR hk => ?_)
                refine lv_bipush (v := (-12)) hx hb dL_ranks_734 (by decide) ?_
                refine lv_icmp_ne (tgt := 787) hx hb dL_ranks_736 (by decide) (fun c__68 => ?_) (fun c__68 => ?_)
                · have hf := qif_f hf c__68
                  refine lv_iconst (v := 0) hx hb dL_ranks_787 (by decide) ?_
                  have hR := lR_pick hR [] (ex1 := []) (g1 := []) (by decide) rfl (Or.inr rfl)
                  obtain ⟨e1, e2⟩ := qso2 hf
                  exact l_iret hC hR hr (by decide) e1 (by rw [e2]) dL_ranks_788 (by omega) (by omega)
                · have hf := qif_t hf c__68
                  refine lv_aload_n hx hb dL_ranks_739 rfl (lv_at hl 1 rfl) ?_
                  refine lv_iconst (v := 1) hx hb dL_ranks_740 (by decide) ?_
                  refine lv_iconst (v := 5) hx hb dL_ranks_741 (by decide) ?_
                  obtain ⟨r_69, w_70, hq_71, hf⟩ := qbd2_s hf
                  refine l_callSWi hC hR (l_ofHW hJ (mL_onFloor hJ hst hq_71)) lNo_k trivial lp_C lp_C.symm qkl_830 qkl_831 qkl_18 qkl_832 qhd_L_onFloor ⟨Nat.le_of_ble_eq_true rfl, Nat.le_of_ble_eq_true rfl⟩ hl.1 rfl (Nat.le_of_ble_eq_true rfl) dL_ranks_742 ⟨by show _ ≤ 344; omega, by show _ ≤ 2078; omega⟩ (fun H locs hR hk => ?_)
                  refine lv_bipush (v := (-12)) hx hb dL_ranks_745 (by decide) ?_
                  refine lv_icmp_ne (tgt := 787) hx hb dL_ranks_747 (by decide) (fun c__72 => ?_) (fun c__72 => ?_)
                  · have hf := qif_f hf c__72
                    refine lv_iconst (v := 0) hx hb dL_ranks_787 (by decide) ?_
                    have hR := lR_pick hR [] (ex1 := []) (g1 := []) (by decide) rfl (Or.inr rfl)
                    obtain ⟨e1, e2⟩ := qso2 hf
                    exact l_iret hC hR hr (by decide) e1 (by rw [e2]) dL_ranks_788 (by omega) (by omega)
                  · have hf := qif_t hf c__72
                    refine lv_aload_n hx hb dL_ranks_750 rfl (lv_at hl 1 rfl) ?_
                    refine lv_iconst (v := (-1)) hx hb dL_ranks_751 (by decide) ?_
                    obtain ⟨r_73, w_74, hq_75, hf⟩ := qbd2_s hf
                    refine l_callSWi hC hR (l_ofHW hJ (mL_cupAt hJ hst hq_75)) lNo_k trivial lp_C lp_C.symm qkl_782 qkl_783 qkl_18 qkl_784 qhd_L_cupAt ⟨Nat.le_of_ble_eq_true rfl, Nat.le_of_ble_eq_true rfl⟩ hl.1 rfl (Nat.le_of_ble_eq_true rfl) dL_ranks_752 ⟨by show _ ≤ 344; omega, by show _ ≤ 2078; omega⟩ (fun H locs hR hk => ?_)
                    refine lv_bipush (v := (-13)) hx hb dL_ranks_755 (by decide) ?_
                    refine lv_icmp_ne (tgt := 787) hx hb dL_ranks_757 (by decide) (fun c__76 => ?_) (fun c__76 => ?_)
                    · have hf := qif_f hf c__76
                      refine lv_iconst (v := 0) hx hb dL_ranks_787 (by decide) ?_
                      have hR := lR_pick hR [] (ex1 := []) (g1 := []) (by decide) rfl (Or.inr rfl)
                      obtain ⟨e1, e2⟩ := qso2 hf
                      exact l_iret hC hR hr (by decide) e1 (by rw [e2]) dL_ranks_788 (by omega) (by omega)
                    · have hf := qif_t hf c__76
                      refine lv_aload_n hx hb dL_ranks_760 rfl (lv_at hl 1 rfl) ?_
                      refine lv_aload_n hx hb dL_ranks_761 rfl (lv_at hl 2 rfl) ?_
                      refine l_alen hC hR lgr_m0 rfl rfl dL_ranks_762 ?_
                      refine lv_bipush (v := 9) hx hb dL_ranks_763 (by decide) ?_
                      obtain ⟨r_77, w_78, hq_79, hf⟩ := qbd2_s hf
                      refine l_callSWi hC hR (l_ofHW hJ (mL_of hJ hst hq_79)) lNo_k trivial lp_C lp_C.symm qkl_647 qkl_648 qkl_18 qkl_649 qhd_L_of ⟨Nat.le_of_ble_eq_true rfl, Nat.le_of_ble_eq_true rfl⟩ hl.1 rfl (Nat.le_of_ble_eq_true rfl) dL_ranks_765 ⟨by show _ ≤ 344; omega, by show _ ≤ 2078; omega⟩ (fun H locs hR hk => ?_)
                      refine lv_bipush (v := (-11)) hx hb dL_ranks_768 (by decide) ?_
                      refine lv_icmp_ne (tgt := 787) hx hb dL_ranks_770 (by decide) (fun c__80 => ?_) (fun c__80 => ?_)
                      · have hf := qif_f hf c__80
                        refine lv_iconst (v := 0) hx hb dL_ranks_787 (by decide) ?_
                        have hR := lR_pick hR [] (ex1 := []) (g1 := []) (by decide) rfl (Or.inr rfl)
                        obtain ⟨e1, e2⟩ := qso2 hf
                        exact l_iret hC hR hr (by decide) e1 (by rw [e2]) dL_ranks_788 (by omega) (by omega)
                      · have hf := qif_t hf c__80
                        refine lv_aload_n hx hb dL_ranks_773 rfl (lv_at hl 1 rfl) ?_
                        refine lv_iconst (v := (-1)) hx hb dL_ranks_774 (by decide) ?_
                        obtain ⟨r_81, w_82, hq_83, hf⟩ := qbd2_s hf
                        refine l_callSWi hC hR (l_ofHW hJ (mL_isBroken hJ hst hq_83)) lNo_k trivial lp_C lp_C.symm qkl_823 qkl_824 qkl_18 qkl_825 qhd_L_isBroken ⟨Nat.le_of_ble_eq_true rfl, Nat.le_of_ble_eq_true rfl⟩ hl.1 rfl (Nat.le_of_ble_eq_true rfl) dL_ranks_775 ⟨by show _ ≤ 344; omega, by show _ ≤ 2078; omega⟩ (fun H locs hR hk => ?_)
                        refine lv_bipush (v := (-11)) hx hb dL_ranks_778 (by decide) ?_
                        refine lv_icmp_ne (tgt := 787) hx hb dL_ranks_780 (by decide) (fun c__84 => ?_) (fun c__84 => ?_)
                        · have hf := qif_f hf c__84
                          refine lv_iconst (v := 0) hx hb dL_ranks_787 (by decide) ?_
                          have hR := lR_pick hR [] (ex1 := []) (g1 := []) (by decide) rfl (Or.inr rfl)
                          obtain ⟨e1, e2⟩ := qso2 hf
                          exact l_iret hC hR hr (by decide) e1 (by rw [e2]) dL_ranks_788 (by omega) (by omega)
                        · have hf := qif_t hf c__84
                          refine lv_iconst (v := 1) hx hb dL_ranks_783 (by decide) ?_
                          refine lv_goto (tgt := 788) hx hb dL_ranks_784 (by decide) ?_
                          have hR := lR_pick hR [] (ex1 := []) (g1 := []) (by decide) rfl (Or.inr rfl)
                          obtain ⟨e1, e2⟩ := qso2 hf
                          exact l_iret hC hR hr (by decide) e1 (by rw [e2]) dL_ranks_788 (by omega) (by omega)
def fL_ranks_L637   (w : qMem) (n : Nat) (M : Nat → Nat → Int32) (x4 : Int32) (x6 : Int32) (x7 : Int32) : Option (Int32 × qMem) :=
  qbd3 (fX5_brokenShare w) fun (k_22 : Nat) (r_21 : UInt32) (w_23 : qMem) =>
  if k_22 = 0 then
  if qn32 (FP.fdiv (FP.i2f x4) (FP.i2f (Int32.ofNat n))) = true then
  if Op.cmpValue (FP.fcmp r_21 (FP.fdiv (FP.i2f x4) (FP.i2f (Int32.ofNat n)))) .l = 0 then
    fL_ranks_L657 w_23 n M x4 x6 x7 1
  else
    fL_ranks_L657 w_23 n M x4 x6 x7 0
  else none
  else none
set_option maxHeartbeats 4000000 in
set_option maxRecDepth 100000 in
theorem mL_ranks_L637 {p : Program} {l : Launch} {e : Env} {s : State} {m : MethodId} {args : Array Value} {below : List Frame} {meth : Method} {c : Code} {D : va_G} {G : Nat → ClassId} {ad : Nat → Nat} {w0 : qMem} {rF : Int32} {wF : qMem} (hst : l.stackTraces = false) (hC : lCx p c cL_ranks 13 s m args meth RL D G ad (lX (qcells G ad w0) [] [])) (hr : meth.sig.returnType = some .boolean) : ∀ (w : qMem) (n : Nat) (M : Nat → Nat → Int32) (x4 : Int32) (x6 : Int32) (x7 : Int32) (gq : Nat) (gr : Nat → Nat) (cc cs : Nat) (H : Heap) (locs : List Loc) (ls : Array Slot), fL_ranks_L637 w n M x4 x6 x7 = some (rF, wF) → lR D (lX (qcells G ad w0) [] []) (lX (qcells G ad w) [] (lgr G gq gr n M)) s H locs → lv_has ls 13 [(0, .ref (ad 228)), (1, .ref gq), (4, .int x4), (6, .int x6), (7, .int x7)] → cc + 12 ≤ 344 → cs + 72 ≤ 2078 → W p l e (qrm 10 344 2078) s m args below meth c H locs cc cs (MQ below (lQi D (lX (qcells G ad w0) [] []) (lX (qcells G ad wF) [] []) s rF) args s 344 2078 (va_A (lX (qcells G ad w0) [] []) s.heap.size)) (F0 m 637 ls []) := by
  have hx := hC.1
  have hb := hC.2.1
  have hJ := hC.2.2.2.2.2.2.2.1
  intro w n M x4 x6 x7 gq gr cc cs H locs ls hf hR hl hcM hsM
  unfold fL_ranks_L637 at hf
  refine lv_aload_n hx hb dL_ranks_637 rfl (lv_at hl 0 rfl) ?_
  obtain ⟨k_22, r_21, w_23, hq_20, hf⟩ := qbd3_s hf
  obtain ⟨h_24, hf⟩ := qgd hf
  refine l_callVf hC hR (l_ofXf hJ (mX5_brokenShare hJ hst hq_20) h_24) lNo_k trivial lp_C lp_C.symm (l_recv hC hR (lX_mc (k := 228) (by decide)) rfl) qkl_862 qk_863 qk_864 qk_19 qk_865 qhd_X5_brokenShare ⟨Nat.le_of_ble_eq_true rfl, Nat.le_of_ble_eq_true rfl⟩ hl.1 rfl (Nat.le_of_ble_eq_true rfl) dL_ranks_638 ⟨by show _ ≤ 344; omega, by show _ ≤ 2078; omega⟩ (fun H locs hR hk => ?_)
  refine lv_iload hx hb dL_ranks_641 (lv_at hl 2 rfl) ?_
  refine lv_i2f hx hb dL_ranks_643 ?_
  refine lv_aload_n hx hb dL_ranks_644 rfl (lv_at hl 1 rfl) ?_
  refine l_alen hC hR lgr_m0 rfl rfl dL_ranks_645 ?_
  refine lv_i2f hx hb dL_ranks_646 ?_
  obtain ⟨g_25, hf⟩ := qgd hf
  refine lv_fdiv hx hb dL_ranks_647 (qn32_ok g_25) ?_
  refine lv_fcmp hx hb dL_ranks_648 ?_
  refine lv_if_ne (tgt := 656) hx hb dL_ranks_649 (by decide) (fun c__26 => ?_) (fun c__26 => ?_)
  · have hf := qif_f hf c__26
    refine lv_iconst (v := 0) hx hb dL_ranks_656 (by decide) ?_
    exact mL_ranks_L657 hst hC hr _ _ _ _ _ _ _ _ _ _ _ _ _ _ hf hR (lv_sub hl [0, 1, 2, 3, 4] rfl) (by omega) (by omega)
  · have hf := qif_t hf c__26
    refine lv_iconst (v := 1) hx hb dL_ranks_652 (by decide) ?_
    refine lv_goto (tgt := 657) hx hb dL_ranks_653 (by decide) ?_
    exact mL_ranks_L657 hst hC hr _ _ _ _ _ _ _ _ _ _ _ _ _ _ hf hR (lv_sub hl [0, 1, 2, 3, 4] rfl) (by omega) (by omega)
def fL_ranks_L522  (k501 : (qMem → Nat → (Nat → Nat → Int32) → Int32 → Int32 → Int32 → Int32 → Option (Int32 × qMem))) : Nat → qMem → Nat → (Nat → Nat → Int32) → Int32 → Int32 → Int32 → Int32 → Int32 → Int32 → Int32 → Option (Int32 × qMem)
  | 0, _, _, _, _, _, _, _, _, _, _ => none
  | k + 1, w, n, M, x4, x5, x6, x7, x8, x10, x11 =>
    if x10 ≤ x11 then
      qnm (x6 + x8) fun (x_94 : Int32) =>
      qbd2 (fL_onFloor w ((1 : Int32) + (x7 / 5)) (x7 - x7 / 5 * 5)) fun (r_95 : Int32) (w_96 : qMem) =>
      if r_95 = x8 then
        qnm (x7 + 1) fun (x_99 : Int32) =>
        k501 w_96 n M x4 x5 x_94 x_99
      else
        none
    else
      if qin x11 n = true then
      qnm ((x11).toNatClampNeg) fun (j_101 : Nat) =>
      if M j_101 0 = (1 : Int32) + (x7 / 5) then
        if M j_101 1 = x7 - x7 / 5 * 5 then
          qnm (x8 + 1) fun (x_108 : Int32) =>
          qnm (x11 + 1) fun (x_109 : Int32) =>
          fL_ranks_L522 k501 k w n M x4 x5 x6 x7 x_108 x10 x_109
        else
          qnm (x8 + 0) fun (x_106 : Int32) =>
          qnm (x11 + 1) fun (x_107 : Int32) =>
          fL_ranks_L522 k501 k w n M x4 x5 x6 x7 x_106 x10 x_107
      else
        qnm (x8 + 0) fun (x_103 : Int32) =>
        qnm (x11 + 1) fun (x_104 : Int32) =>
        fL_ranks_L522 k501 k w n M x4 x5 x6 x7 x_103 x10 x_104
      else none
set_option maxHeartbeats 4000000 in
set_option maxRecDepth 100000 in
theorem mL_ranks_L522 {p : Program} {l : Launch} {e : Env} {s : State} {m : MethodId} {args : Array Value} {below : List Frame} {meth : Method} {c : Code} {D : va_G} {G : Nat → ClassId} {ad : Nat → Nat} {w0 : qMem} {rF : Int32} {wF : qMem} {k501 : (qMem → Nat → (Nat → Nat → Int32) → Int32 → Int32 → Int32 → Int32 → Option (Int32 × qMem))} {B S : Nat} (hBM : B ≤ 344) (hSM : S ≤ 2078) (hst : l.stackTraces = false) (hC : lCx p c cL_ranks 13 s m args meth RL D G ad (lX (qcells G ad w0) [] [])) (hr : meth.sig.returnType = some .boolean) (hk501 : ∀ (w : qMem) (n : Nat) (M : Nat → Nat → Int32) (x4 : Int32) (x5 : Int32) (x6 : Int32) (x7 : Int32) (gq : Nat) (gr : Nat → Nat) (cc cs : Nat) (H : Heap) (locs : List Loc) (ls : Array Slot), k501 w n M x4 x5 x6 x7 = some (rF, wF) → lR D (lX (qcells G ad w0) [] []) (lX (qcells G ad w) [] (lgr G gq gr n M)) s H locs → lv_has ls 13 [(0, .ref (ad 228)), (1, .ref gq), (4, .int x4), (5, .int x5), (6, .int x6), (7, .int x7)] → cc ≤ B → cs ≤ S → W p l e (qrm 10 344 2078) s m args below meth c H locs cc cs (MQ below (lQi D (lX (qcells G ad w0) [] []) (lX (qcells G ad wF) [] []) s rF) args s 344 2078 (va_A (lX (qcells G ad w0) [] []) s.heap.size)) (F0 m 501 ls [])) : ∀ (k : Nat), ∀ (w : qMem) (n : Nat) (M : Nat → Nat → Int32) (x4 : Int32) (x5 : Int32) (x6 : Int32) (x7 : Int32) (x8 : Int32) (x10 : Int32) (x11 : Int32) (gq : Nat) (gr : Nat → Nat) (cc cs : Nat) (H : Heap) (locs : List Loc) (ls : Array Slot), fL_ranks_L522 k501 k w n M x4 x5 x6 x7 x8 x10 x11 = some (rF, wF) → lR D (lX (qcells G ad w0) [] []) (lX (qcells G ad w) [] (lgr G gq gr n M)) s H locs → lv_has ls 13 [(0, .ref (ad 228)), (1, .ref gq), (4, .int x4), (5, .int x5), (6, .int x6), (7, .int x7), (8, .int x8), (9, .ref gq), (10, .int x10), (11, .int x11)] → cc + 1 ≤ B → cs + 6 ≤ S → cc ≤ 344 → cs ≤ 2078 → W p l e (qrm 10 344 2078) s m args below meth c H locs cc cs (MQ below (lQi D (lX (qcells G ad w0) [] []) (lX (qcells G ad wF) [] []) s rF) args s 344 2078 (va_A (lX (qcells G ad w0) [] []) s.heap.size)) (F0 m 522 ls []) := by
  have hx := hC.1
  have hb := hC.2.1
  have hJ := hC.2.2.2.2.2.2.2.1
  intro k
  induction k with
  | zero => intro w n M x4 x5 x6 x7 x8 x10 x11 gq gr cc cs H locs ls hf; exact nomatch (show (none : Option (Int32 × qMem)) = some _ from hf)
  | succ k ih =>
    intro w n M x4 x5 x6 x7 x8 x10 x11 gq gr cc cs H locs ls hf hR hl hcB hsB hcM hsM
    rw [fL_ranks_L522] at hf
    refine lv_iload hx hb dL_ranks_522 (lv_at hl 9 rfl) ?_
    refine lv_iload hx hb dL_ranks_524 (lv_at hl 8 rfl) ?_
    refine lv_icmp_ge (tgt := 576) hx hb dL_ranks_526 (by decide) (fun c__93 => ?_) (fun c__93 => ?_)
    · have hf := qif_t hf c__93
      refine lv_iload hx hb dL_ranks_576 (lv_at hl 4 rfl) ?_
      refine lv_iload hx hb dL_ranks_578 (lv_at hl 6 rfl) ?_
      refine lv_iadd hx hb dL_ranks_580 ?_
      refine lv_topi (fun x_94 ex_94 => ?_)
      have hf := qnm_t hf ex_94
      refine lv_istore (lv' := [(6, .int x_94), (0, .ref (ad 228)), (1, .ref gq), (4, .int x4), (5, .int x5), (7, .int x7), (8, .int x8), (9, .ref gq), (10, .int x10), (11, .int x11)]) hx hb dL_ranks_581 hl (by decide) rfl (fun ls hl => ?_)
      refine lv_aload_n hx hb dL_ranks_583 rfl (lv_at hl 1 rfl) ?_
      refine lv_iconst (v := 1) hx hb dL_ranks_584 (by decide) ?_
      refine lv_iload hx hb dL_ranks_585 (lv_at hl 5 rfl) ?_
      refine lv_iconst (v := 5) hx hb dL_ranks_587 (by decide) ?_
      refine lv_idiv hx hb dL_ranks_588 (by decide) ?_
      refine lv_iadd hx hb dL_ranks_589 ?_
      refine lv_iload hx hb dL_ranks_590 (lv_at hl 5 rfl) ?_
      refine lv_iconst (v := 5) hx hb dL_ranks_592 (by decide) ?_
      refine lv_irem hx hb dL_ranks_593 (by decide) ?_
      obtain ⟨r_95, w_96, hq_97, hf⟩ := qbd2_s hf
      refine l_callSWi hC hR (l_ofHW hJ (mL_onFloor hJ hst hq_97)) lNo_k trivial lp_C lp_C.symm qkl_830 qkl_831 qkl_18 qkl_832 qhd_L_onFloor ⟨Nat.le_of_ble_eq_true rfl, Nat.le_of_ble_eq_true rfl⟩ hl.1 rfl (Nat.le_of_ble_eq_true rfl) dL_ranks_594 ⟨by show _ ≤ 344; omega, by show _ ≤ 2078; omega⟩ (fun H locs hR hk => ?_)
      refine lv_iload hx hb dL_ranks_597 (lv_at hl 6 rfl) ?_
      refine lv_icmp_eq (tgt := 604) hx hb dL_ranks_599 (by decide) (fun c__98 => ?_) (fun c__98 => ?_)
      · have hf := qif_t hf c__98
        obtain ⟨x_99, ex_99⟩ : ∃ y : Int32, y = x7 + 1 := ⟨_, rfl⟩
        have hf := qnm_t hf ex_99
        refine lv_iinc (v := x_99) (lv' := [(7, .int x_99), (6, .int x_94), (0, .ref (ad 228)), (1, .ref gq), (4, .int x4), (5, .int x5), (8, .int x8), (9, .ref gq), (10, .int x10), (11, .int x11)]) hx hb dL_ranks_604 hl (k := 5) rfl (by rw [ex_99]; rfl) (by decide) rfl (fun ls hl => ?_)
        refine lv_goto (tgt := 501) hx hb dL_ranks_607 (by decide) ?_
        exact hk501 _ _ _ _ _ _ _ _ _ _ _ _ _ _ hf hR (lv_sub hl [2, 3, 4, 5, 1, 0] rfl) (by omega) (by omega)
      · have hf := qif_f hf c__98
        exact nomatch hf
    · have hf := qif_f hf c__93
      refine lv_aload hx hb dL_ranks_529 (lv_at hl 7 rfl) ?_
      refine lv_iload hx hb dL_ranks_531 (lv_at hl 9 rfl) ?_
      obtain ⟨g_100, hf⟩ := qgd hf
      obtain ⟨j_101, ej_101⟩ : ∃ y : Nat, y = (x11).toNatClampNeg := ⟨_, rfl⟩
      have hf := qnm_t hf ej_101
      have hj_101 : j_101 < n := by rw [ej_101]; exact lq_lt g_100
      refine l_ald hC hR lgr_m0 (j := j_101) g_100 ej_101.symm dL_ranks_533 ?_
      refine lv_astore (lv' := [(12, .ref (gr j_101)), (0, .ref (ad 228)), (1, .ref gq), (4, .int x4), (5, .int x5), (6, .int x6), (7, .int x7), (8, .int x8), (9, .ref gq), (10, .int x10), (11, .int x11)]) hx hb dL_ranks_534 hl (by decide) rfl (fun ls hl => ?_)
      refine lv_iload hx hb dL_ranks_536 (lv_at hl 7 rfl) ?_
      refine lv_aload hx hb dL_ranks_538 (lv_at hl 0 rfl) ?_
      refine lv_iconst (v := 0) hx hb dL_ranks_540 (by decide) ?_
      refine l_ild hC hR (lgr_mr hj_101) (j := 0) (by decide) (by decide) dL_ranks_541 ?_
      refine lv_iconst (v := 1) hx hb dL_ranks_542 (by decide) ?_
      refine lv_iload hx hb dL_ranks_543 (lv_at hl 6 rfl) ?_
      refine lv_iconst (v := 5) hx hb dL_ranks_545 (by decide) ?_
      refine lv_idiv hx hb dL_ranks_546 (by decide) ?_
      refine lv_iadd hx hb dL_ranks_547 ?_
      refine lv_icmp_ne (tgt := 566) hx hb dL_ranks_548 (by decide) (fun c__102 => ?_) (fun c__102 => ?_)
      · have hf := qif_f hf c__102
        refine lv_iconst (v := 0) hx hb dL_ranks_566 (by decide) ?_
        refine lv_iadd hx hb dL_ranks_567 ?_
        refine lv_topi (fun x_103 ex_103 => ?_)
        have hf := qnm_t hf ex_103
        refine lv_istore (lv' := [(8, .int x_103), (12, .ref (gr j_101)), (0, .ref (ad 228)), (1, .ref gq), (4, .int x4), (5, .int x5), (6, .int x6), (7, .int x7), (9, .ref gq), (10, .int x10), (11, .int x11)]) hx hb dL_ranks_568 hl (by decide) rfl (fun ls hl => ?_)
        obtain ⟨x_104, ex_104⟩ : ∃ y : Int32, y = x11 + 1 := ⟨_, rfl⟩
        have hf := qnm_t hf ex_104
        refine lv_iinc (v := x_104) (lv' := [(11, .int x_104), (8, .int x_103), (12, .ref (gr j_101)), (0, .ref (ad 228)), (1, .ref gq), (4, .int x4), (5, .int x5), (6, .int x6), (7, .int x7), (9, .ref gq), (10, .int x10)]) hx hb dL_ranks_570 hl (k := 10) rfl (by rw [ex_104]; rfl) (by decide) rfl (fun ls hl => ?_)
        refine lv_goto (tgt := 522) hx hb dL_ranks_573 (by decide) ?_
        exact ih _ _ _ _ _ _ _ _ _ _ _ _ _ _ _ _ _ hf hR (lv_sub hl [3, 4, 5, 6, 7, 8, 1, 9, 10, 0] rfl) (by omega) (by omega) (by omega) (by omega)
      · have hf := qif_t hf c__102
        refine lv_aload hx hb dL_ranks_551 (lv_at hl 0 rfl) ?_
        refine lv_iconst (v := 1) hx hb dL_ranks_553 (by decide) ?_
        refine l_ild hC hR (lgr_mr hj_101) (j := 1) (by decide) (by decide) dL_ranks_554 ?_
        refine lv_iload hx hb dL_ranks_555 (lv_at hl 6 rfl) ?_
        refine lv_iconst (v := 5) hx hb dL_ranks_557 (by decide) ?_
        refine lv_irem hx hb dL_ranks_558 (by decide) ?_
        refine lv_icmp_ne (tgt := 566) hx hb dL_ranks_559 (by decide) (fun c__105 => ?_) (fun c__105 => ?_)
        · have hf := qif_f hf c__105
          refine lv_iconst (v := 0) hx hb dL_ranks_566 (by decide) ?_
          refine lv_iadd hx hb dL_ranks_567 ?_
          refine lv_topi (fun x_106 ex_106 => ?_)
          have hf := qnm_t hf ex_106
          refine lv_istore (lv' := [(8, .int x_106), (12, .ref (gr j_101)), (0, .ref (ad 228)), (1, .ref gq), (4, .int x4), (5, .int x5), (6, .int x6), (7, .int x7), (9, .ref gq), (10, .int x10), (11, .int x11)]) hx hb dL_ranks_568 hl (by decide) rfl (fun ls hl => ?_)
          obtain ⟨x_107, ex_107⟩ : ∃ y : Int32, y = x11 + 1 := ⟨_, rfl⟩
          have hf := qnm_t hf ex_107
          refine lv_iinc (v := x_107) (lv' := [(11, .int x_107), (8, .int x_106), (12, .ref (gr j_101)), (0, .ref (ad 228)), (1, .ref gq), (4, .int x4), (5, .int x5), (6, .int x6), (7, .int x7), (9, .ref gq), (10, .int x10)]) hx hb dL_ranks_570 hl (k := 10) rfl (by rw [ex_107]; rfl) (by decide) rfl (fun ls hl => ?_)
          refine lv_goto (tgt := 522) hx hb dL_ranks_573 (by decide) ?_
          exact ih _ _ _ _ _ _ _ _ _ _ _ _ _ _ _ _ _ hf hR (lv_sub hl [3, 4, 5, 6, 7, 8, 1, 9, 10, 0] rfl) (by omega) (by omega) (by omega) (by omega)
        · have hf := qif_t hf c__105
          refine lv_iconst (v := 1) hx hb dL_ranks_562 (by decide) ?_
          refine lv_goto (tgt := 567) hx hb dL_ranks_563 (by decide) ?_
          refine lv_iadd hx hb dL_ranks_567 ?_
          refine lv_topi (fun x_108 ex_108 => ?_)
          have hf := qnm_t hf ex_108
          refine lv_istore (lv' := [(8, .int x_108), (12, .ref (gr j_101)), (0, .ref (ad 228)), (1, .ref gq), (4, .int x4), (5, .int x5), (6, .int x6), (7, .int x7), (9, .ref gq), (10, .int x10), (11, .int x11)]) hx hb dL_ranks_568 hl (by decide) rfl (fun ls hl => ?_)
          obtain ⟨x_109, ex_109⟩ : ∃ y : Int32, y = x11 + 1 := ⟨_, rfl⟩
          have hf := qnm_t hf ex_109
          refine lv_iinc (v := x_109) (lv' := [(11, .int x_109), (8, .int x_108), (12, .ref (gr j_101)), (0, .ref (ad 228)), (1, .ref gq), (4, .int x4), (5, .int x5), (6, .int x6), (7, .int x7), (9, .ref gq), (10, .int x10)]) hx hb dL_ranks_570 hl (k := 10) rfl (by rw [ex_109]; rfl) (by decide) rfl (fun ls hl => ?_)
          refine lv_goto (tgt := 522) hx hb dL_ranks_573 (by decide) ?_
          exact ih _ _ _ _ _ _ _ _ _ _ _ _ _ _ _ _ _ hf hR (lv_sub hl [3, 4, 5, 6, 7, 8, 1, 9, 10, 0] rfl) (by omega) (by omega) (by omega) (by omega)
def fL_ranks_L501   : Nat → qMem → Nat → (Nat → Nat → Int32) → Int32 → Int32 → Int32 → Int32 → Option (Int32 × qMem)
  | 0, _, _, _, _, _, _, _ => none
  | k + 1, w, n, M, x4, x5, x6, x7 =>
    if (15 : Int32) ≤ x7 then
      qbd2 (fL_many n M 1) fun (r_17 : Int32) (M_18 : Nat → Nat → Int32) =>
      if r_17 = 0 then
        fL_ranks_L637 w n M_18 x4 x6 r_17
      else
        qbd3 (fX5_meanGrade w) fun (k_87 : Nat) (r_86 : UInt64) (w_88 : qMem) =>
        if k_87 = 0 then
        if qn64 (FP.ddiv (FP.i2d x5) (FP.i2d r_17)) = true then
        if Op.cmpValue (FP.dcmp r_86 (FP.ddiv (FP.i2d x5) (FP.i2d r_17))) .l = 0 then
          fL_ranks_L637 w_88 n M_18 x4 x6 r_17
        else
          fL_ranks_L657 w_88 n M_18 x4 x6 r_17 0
        else none
        else none
    else
      qnm (Int32.ofNat n) fun (x_92 : Int32) =>
      fL_ranks_L522 (fL_ranks_L501 k) 13 w n M x4 x5 x6 x7 0 x_92 0
set_option maxHeartbeats 4000000 in
set_option maxRecDepth 100000 in
theorem mL_ranks_L501 {p : Program} {l : Launch} {e : Env} {s : State} {m : MethodId} {args : Array Value} {below : List Frame} {meth : Method} {c : Code} {D : va_G} {G : Nat → ClassId} {ad : Nat → Nat} {w0 : qMem} {rF : Int32} {wF : qMem} (hst : l.stackTraces = false) (hC : lCx p c cL_ranks 13 s m args meth RL D G ad (lX (qcells G ad w0) [] [])) (hr : meth.sig.returnType = some .boolean) : ∀ (k : Nat), ∀ (w : qMem) (n : Nat) (M : Nat → Nat → Int32) (x4 : Int32) (x5 : Int32) (x6 : Int32) (x7 : Int32) (gq : Nat) (gr : Nat → Nat) (cc cs : Nat) (H : Heap) (locs : List Loc) (ls : Array Slot), fL_ranks_L501 k w n M x4 x5 x6 x7 = some (rF, wF) → lR D (lX (qcells G ad w0) [] []) (lX (qcells G ad w) [] (lgr G gq gr n M)) s H locs → lv_has ls 13 [(0, .ref (ad 228)), (1, .ref gq), (4, .int x4), (5, .int x5), (6, .int x6), (7, .int x7)] → cc + 1 * k + 13 ≤ 344 → cs + 6 * k + 78 ≤ 2078 → W p l e (qrm 10 344 2078) s m args below meth c H locs cc cs (MQ below (lQi D (lX (qcells G ad w0) [] []) (lX (qcells G ad wF) [] []) s rF) args s 344 2078 (va_A (lX (qcells G ad w0) [] []) s.heap.size)) (F0 m 501 ls []) := by
  have hx := hC.1
  have hb := hC.2.1
  have hJ := hC.2.2.2.2.2.2.2.1
  intro k
  induction k with
  | zero => intro w n M x4 x5 x6 x7 gq gr cc cs H locs ls hf; exact nomatch (show (none : Option (Int32 × qMem)) = some _ from hf)
  | succ k ih =>
    intro w n M x4 x5 x6 x7 gq gr cc cs H locs ls hf hR hl hcM hsM
    rw [fL_ranks_L501] at hf
    refine lv_iload hx hb dL_ranks_501 (lv_at hl 5 rfl) ?_
    refine lv_bipush (v := 15) hx hb dL_ranks_503 (by decide) ?_
    refine lv_icmp_ge (tgt := 610) hx hb dL_ranks_505 (by decide) (fun c__15 => ?_) (fun c__15 => ?_)
    · have hf := qif_t hf c__15
      refine lv_aload_n hx hb dL_ranks_610 rfl (lv_at hl 1 rfl) ?_
      refine lv_iconst (v := 1) hx hb dL_ranks_611 (by decide) ?_
      obtain ⟨r_17, M_18, hq_16, hf⟩ := qbd2_s hf
      refine l_callSi hC hR (mL_many hJ hst hq_16) lNo_k trivial lp_GR lp_GR1 qkl_747 qkl_748 qkl_18 qkl_749 qhd_L_many ⟨Nat.le_of_ble_eq_true rfl, Nat.le_of_ble_eq_true rfl⟩ hl.1 rfl (Nat.le_of_ble_eq_true rfl) dL_ranks_612 ⟨by show _ ≤ 344; omega, by show _ ≤ 2078; omega⟩ (fun H locs hR hk => ?_)
      refine lv_istore (lv' := [(7, .int r_17), (0, .ref (ad 228)), (1, .ref gq), (4, .int x4), (5, .int x5), (6, .int x6)]) hx hb dL_ranks_615 hl (by decide) rfl (fun ls hl => ?_)
      refine lv_iload hx hb dL_ranks_617 (lv_at hl 0 rfl) ?_
      refine lv_if_eq (tgt := 637) hx hb dL_ranks_619 (by decide) (fun c__19 => ?_) (fun c__19 => ?_)
      · have hf := qif_t hf c__19
        exact mL_ranks_L637 hst hC hr _ _ _ _ _ _ _ _ _ _ _ _ _ hf hR (lv_sub hl [1, 2, 3, 5, 0] rfl) (by omega) (by omega)
      · have hf := qif_f hf c__19
        refine lv_aload_n hx hb dL_ranks_622 rfl (lv_at hl 1 rfl) ?_
        obtain ⟨k_87, r_86, w_88, hq_85, hf⟩ := qbd3_s hf
        obtain ⟨h_89, hf⟩ := qgd hf
        refine l_callVd hC hR (l_ofXd hJ (mX5_meanGrade hJ hst hq_85) h_89) lNo_k trivial lp_C lp_C.symm (l_recv hC hR (lX_mc (k := 228) (by decide)) rfl) qkl_838 qk_839 qk_840 qk_19 qk_841 qhd_X5_meanGrade ⟨Nat.le_of_ble_eq_true rfl, Nat.le_of_ble_eq_true rfl⟩ hl.1 rfl (Nat.le_of_ble_eq_true rfl) dL_ranks_623 ⟨by show _ ≤ 344; omega, by show _ ≤ 2078; omega⟩ (fun H locs hR hk => ?_)
        refine lv_iload hx hb dL_ranks_626 (lv_at hl 4 rfl) ?_
        refine lv_i2d hx hb dL_ranks_628 ?_
        refine lv_iload hx hb dL_ranks_629 (lv_at hl 0 rfl) ?_
        refine lv_i2d hx hb dL_ranks_631 ?_
        obtain ⟨g_90, hf⟩ := qgd hf
        refine lv_ddiv hx hb dL_ranks_632 (qn64_ok g_90) ?_
        refine lv_dcmp hx hb dL_ranks_633 ?_
        refine lv_if_ne (tgt := 656) hx hb dL_ranks_634 (by decide) (fun c__91 => ?_) (fun c__91 => ?_)
        · have hf := qif_f hf c__91
          refine lv_iconst (v := 0) hx hb dL_ranks_656 (by decide) ?_
          exact mL_ranks_L657 hst hC hr _ _ _ _ _ _ _ _ _ _ _ _ _ _ hf hR (lv_sub hl [1, 2, 3, 5, 0] rfl) (by omega) (by omega)
        · have hf := qif_t hf c__91
          exact mL_ranks_L637 hst hC hr _ _ _ _ _ _ _ _ _ _ _ _ _ hf hR (lv_sub hl [1, 2, 3, 5, 0] rfl) (by omega) (by omega)
    · have hf := qif_f hf c__15
      refine lv_iconst (v := 0) hx hb dL_ranks_508 (by decide) ?_
      refine lv_istore (lv' := [(8, .int 0), (0, .ref (ad 228)), (1, .ref gq), (4, .int x4), (5, .int x5), (6, .int x6), (7, .int x7)]) hx hb dL_ranks_509 hl (by decide) rfl (fun ls hl => ?_)
      refine lv_aload_n hx hb dL_ranks_511 rfl (lv_at hl 2 rfl) ?_
      refine lv_astore (lv' := [(9, .ref gq), (8, .int 0), (0, .ref (ad 228)), (1, .ref gq), (4, .int x4), (5, .int x5), (6, .int x6), (7, .int x7)]) hx hb dL_ranks_512 hl (by decide) rfl (fun ls hl => ?_)
      refine lv_aload hx hb dL_ranks_514 (lv_at hl 0 rfl) ?_
      refine l_alen hC hR lgr_m0 rfl rfl dL_ranks_516 ?_
      refine lv_topi (fun x_92 ex_92 => ?_)
      have hf := qnm_t hf ex_92
      refine lv_istore (lv' := [(10, .int x_92), (9, .ref gq), (8, .int 0), (0, .ref (ad 228)), (1, .ref gq), (4, .int x4), (5, .int x5), (6, .int x6), (7, .int x7)]) hx hb dL_ranks_517 hl (by decide) rfl (fun ls hl => ?_)
      refine lv_iconst (v := 0) hx hb dL_ranks_519 (by decide) ?_
      refine lv_istore (lv' := [(11, .int 0), (10, .int x_92), (9, .ref gq), (8, .int 0), (0, .ref (ad 228)), (1, .ref gq), (4, .int x4), (5, .int x5), (6, .int x6), (7, .int x7)]) hx hb dL_ranks_520 hl (by decide) rfl (fun ls hl => ?_)
      exact mL_ranks_L522 (B := cc + 1) (S := cs + 6) (by omega) (by omega) hst hC hr (fun y0 y1 y2 y3 y4 y5 y6 y7 y8 cc2 cs2 H2 locs2 ls2 hf2 hR2 hl2 hc2 hs2 => ih y0 y1 y2 y3 y4 y5 y6 y7 y8 cc2 cs2 H2 locs2 ls2 hf2 hR2 hl2 (by omega) (by omega)) 13 _ _ _ _ _ _ _ _ _ _ _ _ _ _ _ _ _ hf hR (lv_sub hl [4, 5, 6, 7, 8, 9, 3, 2, 1, 0] rfl) (by omega) (by omega) (by omega) (by omega)
def fL_ranks_L457  (k314 : (qMem → Nat → (Nat → Nat → Int32) → Int32 → Int32 → Int32 → Int32 → Option (Int32 × qMem))) (w : qMem) (n : Nat) (M : Nat → Nat → Int32) (x4 : Int32) (x5 : Int32) (x6 : Int32) (x7 : Int32) (j8 : Nat) (s0 : Int32) : Option (Int32 × qMem) :=
  if s0 = 0 then
    none
  else
    qbd2 (fL_isBroken w x7) fun (r_119 : Int32) (w_120 : qMem) =>
    if r_119 = M j8 4 then
      qbd2 (fL_of w_120 x7 7) fun (r_123 : Int32) (w_124 : qMem) =>
      if r_123 = (-12) then
        qnm (x7 + 1) fun (x_127 : Int32) =>
        k314 w_124 n M x4 x5 x6 x_127
      else
        none
    else
      none
set_option maxHeartbeats 4000000 in
set_option maxRecDepth 100000 in
theorem mL_ranks_L457 {p : Program} {l : Launch} {e : Env} {s : State} {m : MethodId} {args : Array Value} {below : List Frame} {meth : Method} {c : Code} {D : va_G} {G : Nat → ClassId} {ad : Nat → Nat} {w0 : qMem} {rF : Int32} {wF : qMem} {k314 : (qMem → Nat → (Nat → Nat → Int32) → Int32 → Int32 → Int32 → Int32 → Option (Int32 × qMem))} {B S : Nat} (hBM : B ≤ 344) (hSM : S ≤ 2078) (hst : l.stackTraces = false) (hC : lCx p c cL_ranks 13 s m args meth RL D G ad (lX (qcells G ad w0) [] [])) (hr : meth.sig.returnType = some .boolean) (hk314 : ∀ (w : qMem) (n : Nat) (M : Nat → Nat → Int32) (x4 : Int32) (x5 : Int32) (x6 : Int32) (x7 : Int32) (gq : Nat) (gr : Nat → Nat) (cc cs : Nat) (H : Heap) (locs : List Loc) (ls : Array Slot), k314 w n M x4 x5 x6 x7 = some (rF, wF) → lR D (lX (qcells G ad w0) [] []) (lX (qcells G ad w) [] (lgr G gq gr n M)) s H locs → lv_has ls 13 [(0, .ref (ad 228)), (1, .ref gq), (4, .int x4), (5, .int x5), (6, .int x6), (7, .int x7)] → cc ≤ B → cs ≤ S → W p l e (qrm 10 344 2078) s m args below meth c H locs cc cs (MQ below (lQi D (lX (qcells G ad w0) [] []) (lX (qcells G ad wF) [] []) s rF) args s 344 2078 (va_A (lX (qcells G ad w0) [] []) s.heap.size)) (F0 m 314 ls [])) : ∀ (w : qMem) (n : Nat) (M : Nat → Nat → Int32) (x4 : Int32) (x5 : Int32) (x6 : Int32) (x7 : Int32) (j8 : Nat) (s0 : Int32) (gq : Nat) (gr : Nat → Nat) (hj8 : j8 < n) (cc cs : Nat) (H : Heap) (locs : List Loc) (ls : Array Slot), fL_ranks_L457 k314 w n M x4 x5 x6 x7 j8 s0 = some (rF, wF) → lR D (lX (qcells G ad w0) [] []) (lX (qcells G ad w) [] (lgr G gq gr n M)) s H locs → lv_has ls 13 [(0, .ref (ad 228)), (1, .ref gq), (4, .int x4), (5, .int x5), (6, .int x6), (7, .int x7), (8, .ref (gr j8))] → cc + 3 ≤ B → cs + 18 ≤ S → cc ≤ 344 → cs ≤ 2078 → W p l e (qrm 10 344 2078) s m args below meth c H locs cc cs (MQ below (lQi D (lX (qcells G ad w0) [] []) (lX (qcells G ad wF) [] []) s rF) args s 344 2078 (va_A (lX (qcells G ad w0) [] []) s.heap.size)) (F0 m 457 ls [.int s0]) := by
  have hx := hC.1
  have hb := hC.2.1
  have hJ := hC.2.2.2.2.2.2.2.1
  intro w n M x4 x5 x6 x7 j8 s0 gq gr hj8 cc cs H locs ls hf hR hl hcB hsB hcM hsM
  unfold fL_ranks_L457 at hf
  refine lv_istore (lv' := [(9, .int s0), (0, .ref (ad 228)), (1, .ref gq), (4, .int x4), (5, .int x5), (6, .int x6), (7, .int x7), (8, .ref (gr j8))]) hx hb dL_ranks_457 hl (by decide) rfl (fun ls hl => ?_)
  refine lv_iload hx hb dL_ranks_459 (lv_at hl 0 rfl) ?_
  refine lv_if_eq (tgt := 490) hx hb dL_ranks_461 (by decide) (fun c__118 => ?_) (fun c__118 => ?_)
  · have hf := qif_t hf c__118
    exact nomatch hf
  · have hf := qif_f hf c__118
    refine lv_aload_n hx hb dL_ranks_464 rfl (lv_at hl 1 rfl) ?_
    refine lv_iload hx hb dL_ranks_465 (lv_at hl 6 rfl) ?_
    obtain ⟨r_119, w_120, hq_121, hf⟩ := qbd2_s hf
    refine l_callSWi hC hR (l_ofHW hJ (mL_isBroken hJ hst hq_121)) lNo_k trivial lp_C lp_C.symm qkl_823 qkl_824 qkl_18 qkl_825 qhd_L_isBroken ⟨Nat.le_of_ble_eq_true rfl, Nat.le_of_ble_eq_true rfl⟩ hl.1 rfl (Nat.le_of_ble_eq_true rfl) dL_ranks_467 ⟨by show _ ≤ 344; omega, by show _ ≤ 2078; omega⟩ (fun H locs hR hk => ?_)
    refine lv_aload hx hb dL_ranks_470 (lv_at hl 7 rfl) ?_
    refine lv_iconst (v := 4) hx hb dL_ranks_472 (by decide) ?_
    refine l_ild hC hR (lgr_mr hj8) (j := 4) (by decide) (by decide) dL_ranks_473 ?_
    refine lv_icmp_ne (tgt := 490) hx hb dL_ranks_474 (by decide) (fun c__122 => ?_) (fun c__122 => ?_)
    · have hf := qif_f hf c__122
      exact nomatch hf
    · have hf := qif_t hf c__122
      refine lv_aload_n hx hb dL_ranks_477 rfl (lv_at hl 1 rfl) ?_
      refine lv_iload hx hb dL_ranks_478 (lv_at hl 6 rfl) ?_
      refine lv_bipush (v := 7) hx hb dL_ranks_480 (by decide) ?_
      obtain ⟨r_123, w_124, hq_125, hf⟩ := qbd2_s hf
      refine l_callSWi hC hR (l_ofHW hJ (mL_of hJ hst hq_125)) lNo_k trivial lp_C lp_C.symm qkl_647 qkl_648 qkl_18 qkl_649 qhd_L_of ⟨Nat.le_of_ble_eq_true rfl, Nat.le_of_ble_eq_true rfl⟩ hl.1 rfl (Nat.le_of_ble_eq_true rfl) dL_ranks_482 ⟨by show _ ≤ 344; omega, by show _ ≤ 2078; omega⟩ (fun H locs hR hk => ?_)
      refine lv_bipush (v := (-12)) hx hb dL_ranks_485 (by decide) ?_
      refine lv_icmp_eq (tgt := 492) hx hb dL_ranks_487 (by decide) (fun c__126 => ?_) (fun c__126 => ?_)
      · have hf := qif_t hf c__126
        obtain ⟨x_127, ex_127⟩ : ∃ y : Int32, y = x7 + 1 := ⟨_, rfl⟩
        have hf := qnm_t hf ex_127
        refine lv_iinc (v := x_127) (lv' := [(7, .int x_127), (9, .int s0), (0, .ref (ad 228)), (1, .ref gq), (4, .int x4), (5, .int x5), (6, .int x6), (8, .ref (gr j8))]) hx hb dL_ranks_492 hl (k := 6) rfl (by rw [ex_127]; rfl) (by decide) rfl (fun ls hl => ?_)
        refine lv_goto (tgt := 314) hx hb dL_ranks_495 (by decide) ?_
        exact hk314 _ _ _ _ _ _ _ _ _ _ _ _ _ _ hf hR (lv_sub hl [2, 3, 4, 5, 6, 0] rfl) (by omega) (by omega)
      · have hf := qif_f hf c__126
        exact nomatch hf
def fL_ranks_L427  (k314 : (qMem → Nat → (Nat → Nat → Int32) → Int32 → Int32 → Int32 → Int32 → Option (Int32 × qMem))) (w : qMem) (n : Nat) (M : Nat → Nat → Int32) (x4 : Int32) (x5 : Int32) (x6 : Int32) (x7 : Int32) (j8 : Nat) (s0 : Int32) (s1 : Int32) : Option (Int32 × qMem) :=
  if s1 = s0 then
    fL_ranks_L457 k314 w n M x4 x5 x6 x7 j8 1
  else
    fL_ranks_L457 k314 w n M x4 x5 x6 x7 j8 0
set_option maxHeartbeats 4000000 in
set_option maxRecDepth 100000 in
theorem mL_ranks_L427 {p : Program} {l : Launch} {e : Env} {s : State} {m : MethodId} {args : Array Value} {below : List Frame} {meth : Method} {c : Code} {D : va_G} {G : Nat → ClassId} {ad : Nat → Nat} {w0 : qMem} {rF : Int32} {wF : qMem} {k314 : (qMem → Nat → (Nat → Nat → Int32) → Int32 → Int32 → Int32 → Int32 → Option (Int32 × qMem))} {B S : Nat} (hBM : B ≤ 344) (hSM : S ≤ 2078) (hst : l.stackTraces = false) (hC : lCx p c cL_ranks 13 s m args meth RL D G ad (lX (qcells G ad w0) [] [])) (hr : meth.sig.returnType = some .boolean) (hk314 : ∀ (w : qMem) (n : Nat) (M : Nat → Nat → Int32) (x4 : Int32) (x5 : Int32) (x6 : Int32) (x7 : Int32) (gq : Nat) (gr : Nat → Nat) (cc cs : Nat) (H : Heap) (locs : List Loc) (ls : Array Slot), k314 w n M x4 x5 x6 x7 = some (rF, wF) → lR D (lX (qcells G ad w0) [] []) (lX (qcells G ad w) [] (lgr G gq gr n M)) s H locs → lv_has ls 13 [(0, .ref (ad 228)), (1, .ref gq), (4, .int x4), (5, .int x5), (6, .int x6), (7, .int x7)] → cc ≤ B → cs ≤ S → W p l e (qrm 10 344 2078) s m args below meth c H locs cc cs (MQ below (lQi D (lX (qcells G ad w0) [] []) (lX (qcells G ad wF) [] []) s rF) args s 344 2078 (va_A (lX (qcells G ad w0) [] []) s.heap.size)) (F0 m 314 ls [])) : ∀ (w : qMem) (n : Nat) (M : Nat → Nat → Int32) (x4 : Int32) (x5 : Int32) (x6 : Int32) (x7 : Int32) (j8 : Nat) (s0 : Int32) (s1 : Int32) (gq : Nat) (gr : Nat → Nat) (hj8 : j8 < n) (cc cs : Nat) (H : Heap) (locs : List Loc) (ls : Array Slot), fL_ranks_L427 k314 w n M x4 x5 x6 x7 j8 s0 s1 = some (rF, wF) → lR D (lX (qcells G ad w0) [] []) (lX (qcells G ad w) [] (lgr G gq gr n M)) s H locs → lv_has ls 13 [(0, .ref (ad 228)), (1, .ref gq), (4, .int x4), (5, .int x5), (6, .int x6), (7, .int x7), (8, .ref (gr j8))] → cc + 3 ≤ B → cs + 18 ≤ S → cc ≤ 344 → cs ≤ 2078 → W p l e (qrm 10 344 2078) s m args below meth c H locs cc cs (MQ below (lQi D (lX (qcells G ad w0) [] []) (lX (qcells G ad wF) [] []) s rF) args s 344 2078 (va_A (lX (qcells G ad w0) [] []) s.heap.size)) (F0 m 427 ls [.int s0, .int s1]) := by
  have hx := hC.1
  have hb := hC.2.1
  have hJ := hC.2.2.2.2.2.2.2.1
  intro w n M x4 x5 x6 x7 j8 s0 s1 gq gr hj8 cc cs H locs ls hf hR hl hcB hsB hcM hsM
  unfold fL_ranks_L427 at hf
  refine lv_icmp_ne (tgt := 434) hx hb dL_ranks_427 (by decide) (fun c__130 => ?_) (fun c__130 => ?_)
  · have hf := qif_f hf c__130
    refine lv_iconst (v := 0) hx hb dL_ranks_434 (by decide) ?_
    refine lv_goto (tgt := 457) hx hb dL_ranks_435 (by decide) ?_
    exact mL_ranks_L457 (B := B) (S := S) hBM hSM hst hC hr hk314 _ _ _ _ _ _ _ _ _ _ _ hj8 _ _ _ _ _ hf hR (lv_sub hl [0, 1, 2, 3, 4, 5, 6] rfl) (by omega) (by omega) (by omega) (by omega)
  · have hf := qif_t hf c__130
    refine lv_iconst (v := 1) hx hb dL_ranks_430 (by decide) ?_
    refine lv_goto (tgt := 457) hx hb dL_ranks_431 (by decide) ?_
    exact mL_ranks_L457 (B := B) (S := S) hBM hSM hst hC hr hk314 _ _ _ _ _ _ _ _ _ _ _ hj8 _ _ _ _ _ hf hR (lv_sub hl [0, 1, 2, 3, 4, 5, 6] rfl) (by omega) (by omega) (by omega) (by omega)
def fL_ranks_L382  (k314 : (qMem → Nat → (Nat → Nat → Int32) → Int32 → Int32 → Int32 → Int32 → Option (Int32 × qMem))) (w : qMem) (n : Nat) (M : Nat → Nat → Int32) (x4 : Int32) (x5 : Int32) (x6 : Int32) (x7 : Int32) (j8 : Nat) (s0 : Int32) (s1 : Int32) : Option (Int32 × qMem) :=
  if s1 = s0 then
    if (4 : Int32) ≤ M j8 3 then
      fL_ranks_L457 k314 w n M x4 x5 x6 x7 j8 0
    else
      fL_ranks_L457 k314 w n M x4 x5 x6 x7 j8 1
  else
    fL_ranks_L457 k314 w n M x4 x5 x6 x7 j8 0
set_option maxHeartbeats 4000000 in
set_option maxRecDepth 100000 in
theorem mL_ranks_L382 {p : Program} {l : Launch} {e : Env} {s : State} {m : MethodId} {args : Array Value} {below : List Frame} {meth : Method} {c : Code} {D : va_G} {G : Nat → ClassId} {ad : Nat → Nat} {w0 : qMem} {rF : Int32} {wF : qMem} {k314 : (qMem → Nat → (Nat → Nat → Int32) → Int32 → Int32 → Int32 → Int32 → Option (Int32 × qMem))} {B S : Nat} (hBM : B ≤ 344) (hSM : S ≤ 2078) (hst : l.stackTraces = false) (hC : lCx p c cL_ranks 13 s m args meth RL D G ad (lX (qcells G ad w0) [] [])) (hr : meth.sig.returnType = some .boolean) (hk314 : ∀ (w : qMem) (n : Nat) (M : Nat → Nat → Int32) (x4 : Int32) (x5 : Int32) (x6 : Int32) (x7 : Int32) (gq : Nat) (gr : Nat → Nat) (cc cs : Nat) (H : Heap) (locs : List Loc) (ls : Array Slot), k314 w n M x4 x5 x6 x7 = some (rF, wF) → lR D (lX (qcells G ad w0) [] []) (lX (qcells G ad w) [] (lgr G gq gr n M)) s H locs → lv_has ls 13 [(0, .ref (ad 228)), (1, .ref gq), (4, .int x4), (5, .int x5), (6, .int x6), (7, .int x7)] → cc ≤ B → cs ≤ S → W p l e (qrm 10 344 2078) s m args below meth c H locs cc cs (MQ below (lQi D (lX (qcells G ad w0) [] []) (lX (qcells G ad wF) [] []) s rF) args s 344 2078 (va_A (lX (qcells G ad w0) [] []) s.heap.size)) (F0 m 314 ls [])) : ∀ (w : qMem) (n : Nat) (M : Nat → Nat → Int32) (x4 : Int32) (x5 : Int32) (x6 : Int32) (x7 : Int32) (j8 : Nat) (s0 : Int32) (s1 : Int32) (gq : Nat) (gr : Nat → Nat) (hj8 : j8 < n) (cc cs : Nat) (H : Heap) (locs : List Loc) (ls : Array Slot), fL_ranks_L382 k314 w n M x4 x5 x6 x7 j8 s0 s1 = some (rF, wF) → lR D (lX (qcells G ad w0) [] []) (lX (qcells G ad w) [] (lgr G gq gr n M)) s H locs → lv_has ls 13 [(0, .ref (ad 228)), (1, .ref gq), (4, .int x4), (5, .int x5), (6, .int x6), (7, .int x7), (8, .ref (gr j8))] → cc + 3 ≤ B → cs + 18 ≤ S → cc ≤ 344 → cs ≤ 2078 → W p l e (qrm 10 344 2078) s m args below meth c H locs cc cs (MQ below (lQi D (lX (qcells G ad w0) [] []) (lX (qcells G ad wF) [] []) s rF) args s 344 2078 (va_A (lX (qcells G ad w0) [] []) s.heap.size)) (F0 m 382 ls [.int s0, .int s1]) := by
  have hx := hC.1
  have hb := hC.2.1
  have hJ := hC.2.2.2.2.2.2.2.1
  intro w n M x4 x5 x6 x7 j8 s0 s1 gq gr hj8 cc cs H locs ls hf hR hl hcB hsB hcM hsM
  unfold fL_ranks_L382 at hf
  refine lv_icmp_ne (tgt := 397) hx hb dL_ranks_382 (by decide) (fun c__132 => ?_) (fun c__132 => ?_)
  · have hf := qif_f hf c__132
    refine lv_iconst (v := 0) hx hb dL_ranks_397 (by decide) ?_
    refine lv_goto (tgt := 457) hx hb dL_ranks_398 (by decide) ?_
    exact mL_ranks_L457 (B := B) (S := S) hBM hSM hst hC hr hk314 _ _ _ _ _ _ _ _ _ _ _ hj8 _ _ _ _ _ hf hR (lv_sub hl [0, 1, 2, 3, 4, 5, 6] rfl) (by omega) (by omega) (by omega) (by omega)
  · have hf := qif_t hf c__132
    refine lv_aload hx hb dL_ranks_385 (lv_at hl 6 rfl) ?_
    refine lv_iconst (v := 3) hx hb dL_ranks_387 (by decide) ?_
    refine l_ild hC hR (lgr_mr hj8) (j := 3) (by decide) (by decide) dL_ranks_388 ?_
    refine lv_iconst (v := 4) hx hb dL_ranks_389 (by decide) ?_
    refine lv_icmp_ge (tgt := 397) hx hb dL_ranks_390 (by decide) (fun c__133 => ?_) (fun c__133 => ?_)
    · have hf := qif_t hf c__133
      refine lv_iconst (v := 0) hx hb dL_ranks_397 (by decide) ?_
      refine lv_goto (tgt := 457) hx hb dL_ranks_398 (by decide) ?_
      exact mL_ranks_L457 (B := B) (S := S) hBM hSM hst hC hr hk314 _ _ _ _ _ _ _ _ _ _ _ hj8 _ _ _ _ _ hf hR (lv_sub hl [0, 1, 2, 3, 4, 5, 6] rfl) (by omega) (by omega) (by omega) (by omega)
    · have hf := qif_f hf c__133
      refine lv_iconst (v := 1) hx hb dL_ranks_393 (by decide) ?_
      refine lv_goto (tgt := 457) hx hb dL_ranks_394 (by decide) ?_
      exact mL_ranks_L457 (B := B) (S := S) hBM hSM hst hC hr hk314 _ _ _ _ _ _ _ _ _ _ _ hj8 _ _ _ _ _ hf hR (lv_sub hl [0, 1, 2, 3, 4, 5, 6] rfl) (by omega) (by omega) (by omega) (by omega)
def fL_ranks_L354  (k314 : (qMem → Nat → (Nat → Nat → Int32) → Int32 → Int32 → Int32 → Int32 → Option (Int32 × qMem))) (w : qMem) (n : Nat) (M : Nat → Nat → Int32) (x4 : Int32) (x6 : Int32) (x7 : Int32) (j8 : Nat) (s0 : Int32) (s1 : Int32) : Option (Int32 × qMem) :=
  qnm (s1 + s0) fun (x_114 : Int32) =>
  if M j8 0 = 1 then
    if M j8 3 = 3 then
      fL_ranks_L382 k314 w n M x4 x_114 x6 x7 j8 1 (M j8 4)
    else
      fL_ranks_L382 k314 w n M x4 x_114 x6 x7 j8 0 (M j8 4)
  else
    if M j8 0 = 2 then
      if M j8 3 ≤ 20 then
        fL_ranks_L427 k314 w n M x4 x_114 x6 x7 j8 0 (M j8 4)
      else
        fL_ranks_L427 k314 w n M x4 x_114 x6 x7 j8 1 (M j8 4)
    else
      if M j8 3 = 0 then
        if M j8 4 = 0 then
          fL_ranks_L457 k314 w n M x4 x_114 x6 x7 j8 1
        else
          fL_ranks_L457 k314 w n M x4 x_114 x6 x7 j8 0
      else
        fL_ranks_L457 k314 w n M x4 x_114 x6 x7 j8 0
set_option maxHeartbeats 4000000 in
set_option maxRecDepth 100000 in
theorem mL_ranks_L354 {p : Program} {l : Launch} {e : Env} {s : State} {m : MethodId} {args : Array Value} {below : List Frame} {meth : Method} {c : Code} {D : va_G} {G : Nat → ClassId} {ad : Nat → Nat} {w0 : qMem} {rF : Int32} {wF : qMem} {k314 : (qMem → Nat → (Nat → Nat → Int32) → Int32 → Int32 → Int32 → Int32 → Option (Int32 × qMem))} {B S : Nat} (hBM : B ≤ 344) (hSM : S ≤ 2078) (hst : l.stackTraces = false) (hC : lCx p c cL_ranks 13 s m args meth RL D G ad (lX (qcells G ad w0) [] [])) (hr : meth.sig.returnType = some .boolean) (hk314 : ∀ (w : qMem) (n : Nat) (M : Nat → Nat → Int32) (x4 : Int32) (x5 : Int32) (x6 : Int32) (x7 : Int32) (gq : Nat) (gr : Nat → Nat) (cc cs : Nat) (H : Heap) (locs : List Loc) (ls : Array Slot), k314 w n M x4 x5 x6 x7 = some (rF, wF) → lR D (lX (qcells G ad w0) [] []) (lX (qcells G ad w) [] (lgr G gq gr n M)) s H locs → lv_has ls 13 [(0, .ref (ad 228)), (1, .ref gq), (4, .int x4), (5, .int x5), (6, .int x6), (7, .int x7)] → cc ≤ B → cs ≤ S → W p l e (qrm 10 344 2078) s m args below meth c H locs cc cs (MQ below (lQi D (lX (qcells G ad w0) [] []) (lX (qcells G ad wF) [] []) s rF) args s 344 2078 (va_A (lX (qcells G ad w0) [] []) s.heap.size)) (F0 m 314 ls [])) : ∀ (w : qMem) (n : Nat) (M : Nat → Nat → Int32) (x4 : Int32) (x6 : Int32) (x7 : Int32) (j8 : Nat) (s0 : Int32) (s1 : Int32) (gq : Nat) (gr : Nat → Nat) (hj8 : j8 < n) (cc cs : Nat) (H : Heap) (locs : List Loc) (ls : Array Slot), fL_ranks_L354 k314 w n M x4 x6 x7 j8 s0 s1 = some (rF, wF) → lR D (lX (qcells G ad w0) [] []) (lX (qcells G ad w) [] (lgr G gq gr n M)) s H locs → lv_has ls 13 [(0, .ref (ad 228)), (1, .ref gq), (4, .int x4), (6, .int x6), (7, .int x7), (8, .ref (gr j8))] → cc + 3 ≤ B → cs + 18 ≤ S → cc ≤ 344 → cs ≤ 2078 → W p l e (qrm 10 344 2078) s m args below meth c H locs cc cs (MQ below (lQi D (lX (qcells G ad w0) [] []) (lX (qcells G ad wF) [] []) s rF) args s 344 2078 (va_A (lX (qcells G ad w0) [] []) s.heap.size)) (F0 m 354 ls [.int s0, .int s1]) := by
  have hx := hC.1
  have hb := hC.2.1
  have hJ := hC.2.2.2.2.2.2.2.1
  intro w n M x4 x6 x7 j8 s0 s1 gq gr hj8 cc cs H locs ls hf hR hl hcB hsB hcM hsM
  unfold fL_ranks_L354 at hf
  refine lv_iadd hx hb dL_ranks_354 ?_
  refine lv_topi (fun x_114 ex_114 => ?_)
  have hf := qnm_t hf ex_114
  refine lv_istore (lv' := [(5, .int x_114), (0, .ref (ad 228)), (1, .ref gq), (4, .int x4), (6, .int x6), (7, .int x7), (8, .ref (gr j8))]) hx hb dL_ranks_355 hl (by decide) rfl (fun ls hl => ?_)
  refine lv_aload hx hb dL_ranks_357 (lv_at hl 6 rfl) ?_
  refine lv_iconst (v := 0) hx hb dL_ranks_359 (by decide) ?_
  refine l_ild hC hR (lgr_mr hj8) (j := 0) (by decide) (by decide) dL_ranks_360 ?_
  refine lv_iconst (v := 1) hx hb dL_ranks_361 (by decide) ?_
  refine lv_icmp_ne (tgt := 401) hx hb dL_ranks_362 (by decide) (fun c__115 => ?_) (fun c__115 => ?_)
  · have hf := qif_f hf c__115
    refine lv_aload hx hb dL_ranks_401 (lv_at hl 6 rfl) ?_
    refine lv_iconst (v := 0) hx hb dL_ranks_403 (by decide) ?_
    refine l_ild hC hR (lgr_mr hj8) (j := 0) (by decide) (by decide) dL_ranks_404 ?_
    refine lv_iconst (v := 2) hx hb dL_ranks_405 (by decide) ?_
    refine lv_icmp_ne (tgt := 438) hx hb dL_ranks_406 (by decide) (fun c__116 => ?_) (fun c__116 => ?_)
    · have hf := qif_f hf c__116
      refine lv_aload hx hb dL_ranks_438 (lv_at hl 6 rfl) ?_
      refine lv_iconst (v := 3) hx hb dL_ranks_440 (by decide) ?_
      refine l_ild hC hR (lgr_mr hj8) (j := 3) (by decide) (by decide) dL_ranks_441 ?_
      refine lv_if_ne (tgt := 456) hx hb dL_ranks_442 (by decide) (fun c__117 => ?_) (fun c__117 => ?_)
      · have hf := qif_f hf c__117
        refine lv_iconst (v := 0) hx hb dL_ranks_456 (by decide) ?_
        exact mL_ranks_L457 (B := B) (S := S) hBM hSM hst hC hr hk314 _ _ _ _ _ _ _ _ _ _ _ hj8 _ _ _ _ _ hf hR (lv_sub hl [1, 2, 3, 0, 4, 5, 6] rfl) (by omega) (by omega) (by omega) (by omega)
      · have hf := qif_t hf c__117
        refine lv_aload hx hb dL_ranks_445 (lv_at hl 6 rfl) ?_
        refine lv_iconst (v := 4) hx hb dL_ranks_447 (by decide) ?_
        refine l_ild hC hR (lgr_mr hj8) (j := 4) (by decide) (by decide) dL_ranks_448 ?_
        refine lv_if_ne (tgt := 456) hx hb dL_ranks_449 (by decide) (fun c__128 => ?_) (fun c__128 => ?_)
        · have hf := qif_f hf c__128
          refine lv_iconst (v := 0) hx hb dL_ranks_456 (by decide) ?_
          exact mL_ranks_L457 (B := B) (S := S) hBM hSM hst hC hr hk314 _ _ _ _ _ _ _ _ _ _ _ hj8 _ _ _ _ _ hf hR (lv_sub hl [1, 2, 3, 0, 4, 5, 6] rfl) (by omega) (by omega) (by omega) (by omega)
        · have hf := qif_t hf c__128
          refine lv_iconst (v := 1) hx hb dL_ranks_452 (by decide) ?_
          refine lv_goto (tgt := 457) hx hb dL_ranks_453 (by decide) ?_
          exact mL_ranks_L457 (B := B) (S := S) hBM hSM hst hC hr hk314 _ _ _ _ _ _ _ _ _ _ _ hj8 _ _ _ _ _ hf hR (lv_sub hl [1, 2, 3, 0, 4, 5, 6] rfl) (by omega) (by omega) (by omega) (by omega)
    · have hf := qif_t hf c__116
      refine lv_aload hx hb dL_ranks_409 (lv_at hl 6 rfl) ?_
      refine lv_iconst (v := 4) hx hb dL_ranks_411 (by decide) ?_
      refine l_ild hC hR (lgr_mr hj8) (j := 4) (by decide) (by decide) dL_ranks_412 ?_
      refine lv_aload hx hb dL_ranks_413 (lv_at hl 6 rfl) ?_
      refine lv_iconst (v := 3) hx hb dL_ranks_415 (by decide) ?_
      refine l_ild hC hR (lgr_mr hj8) (j := 3) (by decide) (by decide) dL_ranks_416 ?_
      refine lv_bipush (v := 20) hx hb dL_ranks_417 (by decide) ?_
      refine lv_icmp_le (tgt := 426) hx hb dL_ranks_419 (by decide) (fun c__129 => ?_) (fun c__129 => ?_)
      · have hf := qif_t hf c__129
        refine lv_iconst (v := 0) hx hb dL_ranks_426 (by decide) ?_
        exact mL_ranks_L427 (B := B) (S := S) hBM hSM hst hC hr hk314 _ _ _ _ _ _ _ _ _ _ _ _ hj8 _ _ _ _ _ hf hR (lv_sub hl [1, 2, 3, 0, 4, 5, 6] rfl) (by omega) (by omega) (by omega) (by omega)
      · have hf := qif_f hf c__129
        refine lv_iconst (v := 1) hx hb dL_ranks_422 (by decide) ?_
        refine lv_goto (tgt := 427) hx hb dL_ranks_423 (by decide) ?_
        exact mL_ranks_L427 (B := B) (S := S) hBM hSM hst hC hr hk314 _ _ _ _ _ _ _ _ _ _ _ _ hj8 _ _ _ _ _ hf hR (lv_sub hl [1, 2, 3, 0, 4, 5, 6] rfl) (by omega) (by omega) (by omega) (by omega)
  · have hf := qif_t hf c__115
    refine lv_aload hx hb dL_ranks_365 (lv_at hl 6 rfl) ?_
    refine lv_iconst (v := 4) hx hb dL_ranks_367 (by decide) ?_
    refine l_ild hC hR (lgr_mr hj8) (j := 4) (by decide) (by decide) dL_ranks_368 ?_
    refine lv_aload hx hb dL_ranks_369 (lv_at hl 6 rfl) ?_
    refine lv_iconst (v := 3) hx hb dL_ranks_371 (by decide) ?_
    refine l_ild hC hR (lgr_mr hj8) (j := 3) (by decide) (by decide) dL_ranks_372 ?_
    refine lv_iconst (v := 3) hx hb dL_ranks_373 (by decide) ?_
    refine lv_icmp_ne (tgt := 381) hx hb dL_ranks_374 (by decide) (fun c__131 => ?_) (fun c__131 => ?_)
    · have hf := qif_f hf c__131
      refine lv_iconst (v := 0) hx hb dL_ranks_381 (by decide) ?_
      exact mL_ranks_L382 (B := B) (S := S) hBM hSM hst hC hr hk314 _ _ _ _ _ _ _ _ _ _ _ _ hj8 _ _ _ _ _ hf hR (lv_sub hl [1, 2, 3, 0, 4, 5, 6] rfl) (by omega) (by omega) (by omega) (by omega)
    · have hf := qif_t hf c__131
      refine lv_iconst (v := 1) hx hb dL_ranks_377 (by decide) ?_
      refine lv_goto (tgt := 382) hx hb dL_ranks_378 (by decide) ?_
      exact mL_ranks_L382 (B := B) (S := S) hBM hSM hst hC hr hk314 _ _ _ _ _ _ _ _ _ _ _ _ hj8 _ _ _ _ _ hf hR (lv_sub hl [1, 2, 3, 0, 4, 5, 6] rfl) (by omega) (by omega) (by omega) (by omega)
def fL_ranks_L314   : Nat → qMem → Nat → (Nat → Nat → Int32) → Int32 → Int32 → Int32 → Int32 → Option (Int32 × qMem)
  | 0, _, _, _, _, _, _, _ => none
  | k + 1, w, n, M, x4, x5, x6, x7 =>
    if Int32.ofNat n ≤ x7 then
      fL_ranks_L501 16 w n M x4 x5 x6 0
    else
      if qin x7 n = true then
      qnm ((x7).toNatClampNeg) fun (j_111 : Nat) =>
      qnm (x4 + (M j_111 4)) fun (x_112 : Int32) =>
      if M j_111 0 = 1 then
        fL_ranks_L354 (fL_ranks_L314 k) w n M x_112 x6 x7 j_111 (M j_111 2) x5
      else
        fL_ranks_L354 (fL_ranks_L314 k) w n M x_112 x6 x7 j_111 0 x5
      else none
set_option maxHeartbeats 4000000 in
set_option maxRecDepth 100000 in
theorem mL_ranks_L314 {p : Program} {l : Launch} {e : Env} {s : State} {m : MethodId} {args : Array Value} {below : List Frame} {meth : Method} {c : Code} {D : va_G} {G : Nat → ClassId} {ad : Nat → Nat} {w0 : qMem} {rF : Int32} {wF : qMem} (hst : l.stackTraces = false) (hC : lCx p c cL_ranks 13 s m args meth RL D G ad (lX (qcells G ad w0) [] [])) (hr : meth.sig.returnType = some .boolean) : ∀ (k : Nat), ∀ (w : qMem) (n : Nat) (M : Nat → Nat → Int32) (x4 : Int32) (x5 : Int32) (x6 : Int32) (x7 : Int32) (gq : Nat) (gr : Nat → Nat) (cc cs : Nat) (H : Heap) (locs : List Loc) (ls : Array Slot), fL_ranks_L314 k w n M x4 x5 x6 x7 = some (rF, wF) → lR D (lX (qcells G ad w0) [] []) (lX (qcells G ad w) [] (lgr G gq gr n M)) s H locs → lv_has ls 13 [(0, .ref (ad 228)), (1, .ref gq), (4, .int x4), (5, .int x5), (6, .int x6), (7, .int x7)] → cc + 3 * k + 29 ≤ 344 → cs + 18 * k + 174 ≤ 2078 → W p l e (qrm 10 344 2078) s m args below meth c H locs cc cs (MQ below (lQi D (lX (qcells G ad w0) [] []) (lX (qcells G ad wF) [] []) s rF) args s 344 2078 (va_A (lX (qcells G ad w0) [] []) s.heap.size)) (F0 m 314 ls []) := by
  have hx := hC.1
  have hb := hC.2.1
  have hJ := hC.2.2.2.2.2.2.2.1
  intro k
  induction k with
  | zero => intro w n M x4 x5 x6 x7 gq gr cc cs H locs ls hf; exact nomatch (show (none : Option (Int32 × qMem)) = some _ from hf)
  | succ k ih =>
    intro w n M x4 x5 x6 x7 gq gr cc cs H locs ls hf hR hl hcM hsM
    rw [fL_ranks_L314] at hf
    refine lv_iload hx hb dL_ranks_314 (lv_at hl 5 rfl) ?_
    refine lv_aload_n hx hb dL_ranks_316 rfl (lv_at hl 1 rfl) ?_
    refine l_alen hC hR lgr_m0 rfl rfl dL_ranks_317 ?_
    refine lv_icmp_ge (tgt := 498) hx hb dL_ranks_318 (by decide) (fun c__14 => ?_) (fun c__14 => ?_)
    · have hf := qif_t hf c__14
      refine lv_iconst (v := 0) hx hb dL_ranks_498 (by decide) ?_
      refine lv_istore (lv' := [(7, .int 0), (0, .ref (ad 228)), (1, .ref gq), (4, .int x4), (5, .int x5), (6, .int x6)]) hx hb dL_ranks_499 hl (by decide) rfl (fun ls hl => ?_)
      exact mL_ranks_L501 hst hC hr 16 _ _ _ _ _ _ _ _ _ _ _ _ _ _ hf hR (lv_sub hl [1, 2, 3, 4, 5, 0] rfl) (by omega) (by omega)
    · have hf := qif_f hf c__14
      refine lv_aload_n hx hb dL_ranks_321 rfl (lv_at hl 1 rfl) ?_
      refine lv_iload hx hb dL_ranks_322 (lv_at hl 5 rfl) ?_
      obtain ⟨g_110, hf⟩ := qgd hf
      obtain ⟨j_111, ej_111⟩ : ∃ y : Nat, y = (x7).toNatClampNeg := ⟨_, rfl⟩
      have hf := qnm_t hf ej_111
      have hj_111 : j_111 < n := by rw [ej_111]; exact lq_lt g_110
      refine l_ald hC hR lgr_m0 (j := j_111) g_110 ej_111.symm dL_ranks_324 ?_
      refine lv_astore (lv' := [(8, .ref (gr j_111)), (0, .ref (ad 228)), (1, .ref gq), (4, .int x4), (5, .int x5), (6, .int x6), (7, .int x7)]) hx hb dL_ranks_325 hl (by decide) rfl (fun ls hl => ?_)
      refine lv_iload hx hb dL_ranks_327 (lv_at hl 3 rfl) ?_
      refine lv_aload hx hb dL_ranks_329 (lv_at hl 0 rfl) ?_
      refine lv_iconst (v := 4) hx hb dL_ranks_331 (by decide) ?_
      refine l_ild hC hR (lgr_mr hj_111) (j := 4) (by decide) (by decide) dL_ranks_332 ?_
      refine lv_iadd hx hb dL_ranks_333 ?_
      refine lv_topi (fun x_112 ex_112 => ?_)
      have hf := qnm_t hf ex_112
      refine lv_istore (lv' := [(4, .int x_112), (8, .ref (gr j_111)), (0, .ref (ad 228)), (1, .ref gq), (5, .int x5), (6, .int x6), (7, .int x7)]) hx hb dL_ranks_334 hl (by decide) rfl (fun ls hl => ?_)
      refine lv_iload hx hb dL_ranks_336 (lv_at hl 4 rfl) ?_
      refine lv_aload hx hb dL_ranks_338 (lv_at hl 1 rfl) ?_
      refine lv_iconst (v := 0) hx hb dL_ranks_340 (by decide) ?_
      refine l_ild hC hR (lgr_mr hj_111) (j := 0) (by decide) (by decide) dL_ranks_341 ?_
      refine lv_iconst (v := 1) hx hb dL_ranks_342 (by decide) ?_
      refine lv_icmp_ne (tgt := 353) hx hb dL_ranks_343 (by decide) (fun c__113 => ?_) (fun c__113 => ?_)
      · have hf := qif_f hf c__113
        refine lv_iconst (v := 0) hx hb dL_ranks_353 (by decide) ?_
        exact mL_ranks_L354 (B := cc + 3) (S := cs + 18) (by omega) (by omega) hst hC hr (fun y0 y1 y2 y3 y4 y5 y6 y7 y8 cc2 cs2 H2 locs2 ls2 hf2 hR2 hl2 hc2 hs2 => ih y0 y1 y2 y3 y4 y5 y6 y7 y8 cc2 cs2 H2 locs2 ls2 hf2 hR2 hl2 (by omega) (by omega)) _ _ _ _ _ _ _ _ _ _ _ hj_111 _ _ _ _ _ hf hR (lv_sub hl [2, 3, 0, 5, 6, 1] rfl) (by omega) (by omega) (by omega) (by omega)
      · have hf := qif_t hf c__113
        refine lv_aload hx hb dL_ranks_346 (lv_at hl 1 rfl) ?_
        refine lv_iconst (v := 2) hx hb dL_ranks_348 (by decide) ?_
        refine l_ild hC hR (lgr_mr hj_111) (j := 2) (by decide) (by decide) dL_ranks_349 ?_
        refine lv_goto (tgt := 354) hx hb dL_ranks_350 (by decide) ?_
        exact mL_ranks_L354 (B := cc + 3) (S := cs + 18) (by omega) (by omega) hst hC hr (fun y0 y1 y2 y3 y4 y5 y6 y7 y8 cc2 cs2 H2 locs2 ls2 hf2 hR2 hl2 hc2 hs2 => ih y0 y1 y2 y3 y4 y5 y6 y7 y8 cc2 cs2 H2 locs2 ls2 hf2 hR2 hl2 (by omega) (by omega)) _ _ _ _ _ _ _ _ _ _ _ hj_111 _ _ _ _ _ hf hR (lv_sub hl [2, 3, 0, 5, 6, 1] rfl) (by omega) (by omega) (by omega) (by omega)
def fL_ranks_L276  (k42 : (qMem → Nat → (Nat → Nat → Int32) → (Nat → Int32) → (Nat → Int32) → Int32 → Int32 → Option (Int32 × qMem))) (w : qMem) (n : Nat) (M : Nat → Nat → Int32) (f6 : Nat → Int32) (f10 : Nat → Int32) (x4 : Int32) (x5 : Int32) (x6 : Int32) : Option (Int32 × qMem) :=
  if qin x5 4 = true then
  qnm (upd f10 (x5).toNatClampNeg x6) fun (f_164 : Nat → Int32) =>
  if qin x5 4 = true then
  if qin x5 4 = true then
  qnm (upd f6 (x5).toNatClampNeg ((f6 (x5).toNatClampNeg) + 1)) fun (f_167 : Nat → Int32) =>
  qnm (x5 + 1) fun (x_168 : Int32) =>
  k42 w n M f_167 f_164 x4 x_168
  else none
  else none
  else none
set_option maxHeartbeats 4000000 in
set_option maxRecDepth 100000 in
theorem mL_ranks_L276 {p : Program} {l : Launch} {e : Env} {s : State} {m : MethodId} {args : Array Value} {below : List Frame} {meth : Method} {c : Code} {D : va_G} {G : Nat → ClassId} {ad : Nat → Nat} {w0 : qMem} {rF : Int32} {wF : qMem} {k42 : (qMem → Nat → (Nat → Nat → Int32) → (Nat → Int32) → (Nat → Int32) → Int32 → Int32 → Option (Int32 × qMem))} {B S : Nat} (hBM : B ≤ 344) (hSM : S ≤ 2078) (hst : l.stackTraces = false) (hC : lCx p c cL_ranks 13 s m args meth RL D G ad (lX (qcells G ad w0) [] [])) (hr : meth.sig.returnType = some .boolean) (hk42 : ∀ (w : qMem) (n : Nat) (M : Nat → Nat → Int32) (f6 : Nat → Int32) (f10 : Nat → Int32) (x4 : Int32) (x5 : Int32) (gq : Nat) (gr : Nat → Nat) (q6 : Nat) (q10 : Nat) (cc cs : Nat) (H : Heap) (locs : List Loc) (ls : Array Slot), k42 w n M f6 f10 x4 x5 = some (rF, wF) → lR D (lX (qcells G ad w0) [] []) (lX (qcells G ad w) [(q6, .inl (G 0, 4, .inl f6)), (q10, .inl (G 0, 4, .inl f10))] (lgr G gq gr n M)) s H locs → lv_has ls 13 [(0, .ref (ad 228)), (1, .ref gq), (2, .ref q6), (3, .ref q10), (4, .int x4), (5, .int x5)] → cc ≤ B → cs ≤ S → W p l e (qrm 10 344 2078) s m args below meth c H locs cc cs (MQ below (lQi D (lX (qcells G ad w0) [] []) (lX (qcells G ad wF) [] []) s rF) args s 344 2078 (va_A (lX (qcells G ad w0) [] []) s.heap.size)) (F0 m 42 ls [])) : ∀ (w : qMem) (n : Nat) (M : Nat → Nat → Int32) (f6 : Nat → Int32) (f10 : Nat → Int32) (x4 : Int32) (x5 : Int32) (x6 : Int32) (gq : Nat) (gr : Nat → Nat) (q6 : Nat) (q10 : Nat) (cc cs : Nat) (H : Heap) (locs : List Loc) (ls : Array Slot), fL_ranks_L276 k42 w n M f6 f10 x4 x5 x6 = some (rF, wF) → lR D (lX (qcells G ad w0) [] []) (lX (qcells G ad w) [(q6, .inl (G 0, 4, .inl f6)), (q10, .inl (G 0, 4, .inl f10))] (lgr G gq gr n M)) s H locs → lv_has ls 13 [(0, .ref (ad 228)), (1, .ref gq), (2, .ref q6), (3, .ref q10), (4, .int x4), (5, .int x5), (6, .int x6)] → cc ≤ B → cs ≤ S → cc ≤ 344 → cs ≤ 2078 → W p l e (qrm 10 344 2078) s m args below meth c H locs cc cs (MQ below (lQi D (lX (qcells G ad w0) [] []) (lX (qcells G ad wF) [] []) s rF) args s 344 2078 (va_A (lX (qcells G ad w0) [] []) s.heap.size)) (F0 m 276 ls []) := by
  have hx := hC.1
  have hb := hC.2.1
  have hJ := hC.2.2.2.2.2.2.2.1
  intro w n M f6 f10 x4 x5 x6 gq gr q6 q10 cc cs H locs ls hf hR hl hcB hsB hcM hsM
  unfold fL_ranks_L276 at hf
  refine lv_aload_n hx hb dL_ranks_276 rfl (lv_at hl 3 rfl) ?_
  refine lv_iload hx hb dL_ranks_277 (lv_at hl 5 rfl) ?_
  refine lv_iload hx hb dL_ranks_279 (lv_at hl 6 rfl) ?_
  obtain ⟨g_163, hf⟩ := qgd hf
  refine l_ist hC hR 1 rfl (j := (x5).toNatClampNeg) g_163 rfl dL_ranks_281 (fun H locs hR => ?_)
  obtain ⟨f_164, ef_164⟩ : ∃ y : Nat → Int32, y = upd f10 (x5).toNatClampNeg x6 := ⟨_, rfl⟩
  have hf := qnm_t hf ef_164
  have hR : lR D (lX (qcells G ad w0) [] []) (lX (qcells G ad w) [(q6, .inl (G 0, 4, .inl f6)), (q10, .inl (G 0, 4, .inl f_164))] (lgr G gq gr n M)) s H locs := by rw [ef_164]; exact hR
  refine lv_aload_n hx hb dL_ranks_282 rfl (lv_at hl 2 rfl) ?_
  refine lv_iload hx hb dL_ranks_283 (lv_at hl 5 rfl) ?_
  refine lv_dup2_11 hx hb dL_ranks_285 rfl rfl ?_
  obtain ⟨g_165, hf⟩ := qgd hf
  refine l_ild hC hR (lX_mx 0 rfl) (j := (x5).toNatClampNeg) g_165 rfl dL_ranks_286 ?_
  refine lv_iconst (v := 1) hx hb dL_ranks_287 (by decide) ?_
  refine lv_iadd hx hb dL_ranks_288 ?_
  obtain ⟨g_166, hf⟩ := qgd hf
  refine l_ist hC hR 0 rfl (j := (x5).toNatClampNeg) g_166 rfl dL_ranks_289 (fun H locs hR => ?_)
  obtain ⟨f_167, ef_167⟩ : ∃ y : Nat → Int32, y = upd f6 (x5).toNatClampNeg ((f6 (x5).toNatClampNeg) + 1) := ⟨_, rfl⟩
  have hf := qnm_t hf ef_167
  have hR : lR D (lX (qcells G ad w0) [] []) (lX (qcells G ad w) [(q6, .inl (G 0, 4, .inl f_167)), (q10, .inl (G 0, 4, .inl f_164))] (lgr G gq gr n M)) s H locs := by rw [ef_167]; exact hR
  obtain ⟨x_168, ex_168⟩ : ∃ y : Int32, y = x5 + 1 := ⟨_, rfl⟩
  have hf := qnm_t hf ex_168
  refine lv_iinc (v := x_168) (lv' := [(5, .int x_168), (0, .ref (ad 228)), (1, .ref gq), (2, .ref q6), (3, .ref q10), (4, .int x4), (6, .int x6)]) hx hb dL_ranks_290 hl (k := 5) rfl (by rw [ex_168]; rfl) (by decide) rfl (fun ls hl => ?_)
  refine lv_goto (tgt := 42) hx hb dL_ranks_293 (by decide) ?_
  exact hk42 _ _ _ _ _ _ _ _ _ _ _ _ _ _ _ _ hf hR (lv_sub hl [1, 2, 3, 4, 5, 0] rfl) (by omega) (by omega)
def fL_ranks_L255  (k42 : (qMem → Nat → (Nat → Nat → Int32) → (Nat → Int32) → (Nat → Int32) → Int32 → Int32 → Option (Int32 × qMem))) (w : qMem) (n : Nat) (M : Nat → Nat → Int32) (f6 : Nat → Int32) (f10 : Nat → Int32) (x4 : Int32) (x5 : Int32) (x6 : Int32) (x7 : Int32) (s0 : Int32) : Option (Int32 × qMem) :=
  if s0 < 0 then
    none
  else
    if s0 = 0 then
      if x7 ≤ x6 then
        fL_ranks_L276 k42 w n M f6 f10 x4 x5 x6
      else
        none
    else
      fL_ranks_L276 k42 w n M f6 f10 x4 x5 x6
set_option maxHeartbeats 4000000 in
set_option maxRecDepth 100000 in
theorem mL_ranks_L255 {p : Program} {l : Launch} {e : Env} {s : State} {m : MethodId} {args : Array Value} {below : List Frame} {meth : Method} {c : Code} {D : va_G} {G : Nat → ClassId} {ad : Nat → Nat} {w0 : qMem} {rF : Int32} {wF : qMem} {k42 : (qMem → Nat → (Nat → Nat → Int32) → (Nat → Int32) → (Nat → Int32) → Int32 → Int32 → Option (Int32 × qMem))} {B S : Nat} (hBM : B ≤ 344) (hSM : S ≤ 2078) (hst : l.stackTraces = false) (hC : lCx p c cL_ranks 13 s m args meth RL D G ad (lX (qcells G ad w0) [] [])) (hr : meth.sig.returnType = some .boolean) (hk42 : ∀ (w : qMem) (n : Nat) (M : Nat → Nat → Int32) (f6 : Nat → Int32) (f10 : Nat → Int32) (x4 : Int32) (x5 : Int32) (gq : Nat) (gr : Nat → Nat) (q6 : Nat) (q10 : Nat) (cc cs : Nat) (H : Heap) (locs : List Loc) (ls : Array Slot), k42 w n M f6 f10 x4 x5 = some (rF, wF) → lR D (lX (qcells G ad w0) [] []) (lX (qcells G ad w) [(q6, .inl (G 0, 4, .inl f6)), (q10, .inl (G 0, 4, .inl f10))] (lgr G gq gr n M)) s H locs → lv_has ls 13 [(0, .ref (ad 228)), (1, .ref gq), (2, .ref q6), (3, .ref q10), (4, .int x4), (5, .int x5)] → cc ≤ B → cs ≤ S → W p l e (qrm 10 344 2078) s m args below meth c H locs cc cs (MQ below (lQi D (lX (qcells G ad w0) [] []) (lX (qcells G ad wF) [] []) s rF) args s 344 2078 (va_A (lX (qcells G ad w0) [] []) s.heap.size)) (F0 m 42 ls [])) : ∀ (w : qMem) (n : Nat) (M : Nat → Nat → Int32) (f6 : Nat → Int32) (f10 : Nat → Int32) (x4 : Int32) (x5 : Int32) (x6 : Int32) (x7 : Int32) (s0 : Int32) (gq : Nat) (gr : Nat → Nat) (q6 : Nat) (q10 : Nat) (cc cs : Nat) (H : Heap) (locs : List Loc) (ls : Array Slot), fL_ranks_L255 k42 w n M f6 f10 x4 x5 x6 x7 s0 = some (rF, wF) → lR D (lX (qcells G ad w0) [] []) (lX (qcells G ad w) [(q6, .inl (G 0, 4, .inl f6)), (q10, .inl (G 0, 4, .inl f10))] (lgr G gq gr n M)) s H locs → lv_has ls 13 [(0, .ref (ad 228)), (1, .ref gq), (2, .ref q6), (3, .ref q10), (4, .int x4), (5, .int x5), (6, .int x6), (7, .int x7)] → cc ≤ B → cs ≤ S → cc ≤ 344 → cs ≤ 2078 → W p l e (qrm 10 344 2078) s m args below meth c H locs cc cs (MQ below (lQi D (lX (qcells G ad w0) [] []) (lX (qcells G ad wF) [] []) s rF) args s 344 2078 (va_A (lX (qcells G ad w0) [] []) s.heap.size)) (F0 m 255 ls [.int s0]) := by
  have hx := hC.1
  have hb := hC.2.1
  have hJ := hC.2.2.2.2.2.2.2.1
  intro w n M f6 f10 x4 x5 x6 x7 s0 gq gr q6 q10 cc cs H locs ls hf hR hl hcB hsB hcM hsM
  unfold fL_ranks_L255 at hf
  refine lv_istore (lv' := [(8, .int s0), (0, .ref (ad 228)), (1, .ref gq), (2, .ref q6), (3, .ref q10), (4, .int x4), (5, .int x5), (6, .int x6), (7, .int x7)]) hx hb dL_ranks_255 hl (by decide) rfl (fun ls hl => ?_)
  refine lv_iload hx hb dL_ranks_257 (lv_at hl 0 rfl) ?_
  refine lv_if_lt (tgt := 274) hx hb dL_ranks_259 (by decide) (fun c__161 => ?_) (fun c__161 => ?_)
  · have hf := qif_t hf c__161
    exact nomatch hf
  · have hf := qif_f hf c__161
    refine lv_iload hx hb dL_ranks_262 (lv_at hl 0 rfl) ?_
    refine lv_if_ne (tgt := 276) hx hb dL_ranks_264 (by decide) (fun c__162 => ?_) (fun c__162 => ?_)
    · have hf := qif_f hf c__162
      exact mL_ranks_L276 (B := B) (S := S) hBM hSM hst hC hr hk42 _ _ _ _ _ _ _ _ _ _ _ _ _ _ _ _ _ hf hR (lv_sub hl [1, 2, 3, 4, 5, 6, 7] rfl) (by omega) (by omega) (by omega) (by omega)
    · have hf := qif_t hf c__162
      refine lv_iload hx hb dL_ranks_267 (lv_at hl 7 rfl) ?_
      refine lv_iload hx hb dL_ranks_269 (lv_at hl 8 rfl) ?_
      refine lv_icmp_ge (tgt := 276) hx hb dL_ranks_271 (by decide) (fun c__169 => ?_) (fun c__169 => ?_)
      · have hf := qif_t hf c__169
        exact mL_ranks_L276 (B := B) (S := S) hBM hSM hst hC hr hk42 _ _ _ _ _ _ _ _ _ _ _ _ _ _ _ _ _ hf hR (lv_sub hl [1, 2, 3, 4, 5, 6, 7] rfl) (by omega) (by omega) (by omega) (by omega)
      · have hf := qif_f hf c__169
        exact nomatch hf
def fL_ranks_L198  (k42 : (qMem → Nat → (Nat → Nat → Int32) → (Nat → Int32) → (Nat → Int32) → Int32 → Int32 → Option (Int32 × qMem))) (w : qMem) (n : Nat) (M : Nat → Nat → Int32) (f6 : Nat → Int32) (f10 : Nat → Int32) (x4 : Int32) (x5 : Int32) (x6 : Int32) (x7 : Int32) (s0 : Int32) : Option (Int32 × qMem) :=
  if s0 = 0 then
    if x5 = 1 then
      if qin x6 n = true then
      qnm ((x6).toNatClampNeg) fun (j_175 : Nat) =>
      if qin x7 n = true then
      qnm ((x7).toNatClampNeg) fun (j_177 : Nat) =>
      fL_ranks_L255 k42 w n M f6 f10 x4 x5 x6 x7 ((M j_175 3) - (M j_177 3))
      else none
      else none
    else
      if x5 = 2 then
        if qin x7 n = true then
        qnm ((x7).toNatClampNeg) fun (j_171 : Nat) =>
        if qin x6 n = true then
        qnm ((x6).toNatClampNeg) fun (j_173 : Nat) =>
        fL_ranks_L255 k42 w n M f6 f10 x4 x5 x6 x7 ((M j_171 2) - (M j_173 2))
        else none
        else none
      else
        fL_ranks_L255 k42 w n M f6 f10 x4 x5 x6 x7 0
  else
    fL_ranks_L255 k42 w n M f6 f10 x4 x5 x6 x7 s0
set_option maxHeartbeats 4000000 in
set_option maxRecDepth 100000 in
theorem mL_ranks_L198 {p : Program} {l : Launch} {e : Env} {s : State} {m : MethodId} {args : Array Value} {below : List Frame} {meth : Method} {c : Code} {D : va_G} {G : Nat → ClassId} {ad : Nat → Nat} {w0 : qMem} {rF : Int32} {wF : qMem} {k42 : (qMem → Nat → (Nat → Nat → Int32) → (Nat → Int32) → (Nat → Int32) → Int32 → Int32 → Option (Int32 × qMem))} {B S : Nat} (hBM : B ≤ 344) (hSM : S ≤ 2078) (hst : l.stackTraces = false) (hC : lCx p c cL_ranks 13 s m args meth RL D G ad (lX (qcells G ad w0) [] [])) (hr : meth.sig.returnType = some .boolean) (hk42 : ∀ (w : qMem) (n : Nat) (M : Nat → Nat → Int32) (f6 : Nat → Int32) (f10 : Nat → Int32) (x4 : Int32) (x5 : Int32) (gq : Nat) (gr : Nat → Nat) (q6 : Nat) (q10 : Nat) (cc cs : Nat) (H : Heap) (locs : List Loc) (ls : Array Slot), k42 w n M f6 f10 x4 x5 = some (rF, wF) → lR D (lX (qcells G ad w0) [] []) (lX (qcells G ad w) [(q6, .inl (G 0, 4, .inl f6)), (q10, .inl (G 0, 4, .inl f10))] (lgr G gq gr n M)) s H locs → lv_has ls 13 [(0, .ref (ad 228)), (1, .ref gq), (2, .ref q6), (3, .ref q10), (4, .int x4), (5, .int x5)] → cc ≤ B → cs ≤ S → W p l e (qrm 10 344 2078) s m args below meth c H locs cc cs (MQ below (lQi D (lX (qcells G ad w0) [] []) (lX (qcells G ad wF) [] []) s rF) args s 344 2078 (va_A (lX (qcells G ad w0) [] []) s.heap.size)) (F0 m 42 ls [])) : ∀ (w : qMem) (n : Nat) (M : Nat → Nat → Int32) (f6 : Nat → Int32) (f10 : Nat → Int32) (x4 : Int32) (x5 : Int32) (x6 : Int32) (x7 : Int32) (s0 : Int32) (gq : Nat) (gr : Nat → Nat) (q6 : Nat) (q10 : Nat) (cc cs : Nat) (H : Heap) (locs : List Loc) (ls : Array Slot), fL_ranks_L198 k42 w n M f6 f10 x4 x5 x6 x7 s0 = some (rF, wF) → lR D (lX (qcells G ad w0) [] []) (lX (qcells G ad w) [(q6, .inl (G 0, 4, .inl f6)), (q10, .inl (G 0, 4, .inl f10))] (lgr G gq gr n M)) s H locs → lv_has ls 13 [(0, .ref (ad 228)), (1, .ref gq), (2, .ref q6), (3, .ref q10), (4, .int x4), (5, .int x5), (6, .int x6), (7, .int x7)] → cc ≤ B → cs ≤ S → cc ≤ 344 → cs ≤ 2078 → W p l e (qrm 10 344 2078) s m args below meth c H locs cc cs (MQ below (lQi D (lX (qcells G ad w0) [] []) (lX (qcells G ad wF) [] []) s rF) args s 344 2078 (va_A (lX (qcells G ad w0) [] []) s.heap.size)) (F0 m 198 ls [.int s0]) := by
  have hx := hC.1
  have hb := hC.2.1
  have hJ := hC.2.2.2.2.2.2.2.1
  intro w n M f6 f10 x4 x5 x6 x7 s0 gq gr q6 q10 cc cs H locs ls hf hR hl hcB hsB hcM hsM
  unfold fL_ranks_L198 at hf
  refine lv_istore (lv' := [(8, .int s0), (0, .ref (ad 228)), (1, .ref gq), (2, .ref q6), (3, .ref q10), (4, .int x4), (5, .int x5), (6, .int x6), (7, .int x7)]) hx hb dL_ranks_198 hl (by decide) rfl (fun ls hl => ?_)
  refine lv_iload hx hb dL_ranks_200 (lv_at hl 0 rfl) ?_
  refine lv_if_eq (tgt := 210) hx hb dL_ranks_202 (by decide) (fun c__158 => ?_) (fun c__158 => ?_)
  · have hf := qif_t hf c__158
    refine lv_iload hx hb dL_ranks_210 (lv_at hl 6 rfl) ?_
    refine lv_iconst (v := 1) hx hb dL_ranks_212 (by decide) ?_
    refine lv_icmp_ne (tgt := 232) hx hb dL_ranks_213 (by decide) (fun c__159 => ?_) (fun c__159 => ?_)
    · have hf := qif_f hf c__159
      refine lv_iload hx hb dL_ranks_232 (lv_at hl 6 rfl) ?_
      refine lv_iconst (v := 2) hx hb dL_ranks_234 (by decide) ?_
      refine lv_icmp_ne (tgt := 254) hx hb dL_ranks_235 (by decide) (fun c__160 => ?_) (fun c__160 => ?_)
      · have hf := qif_f hf c__160
        refine lv_iconst (v := 0) hx hb dL_ranks_254 (by decide) ?_
        exact mL_ranks_L255 (B := B) (S := S) hBM hSM hst hC hr hk42 _ _ _ _ _ _ _ _ _ _ _ _ _ _ _ _ _ _ _ hf hR (lv_sub hl [1, 2, 3, 4, 5, 6, 7, 8] rfl) (by omega) (by omega) (by omega) (by omega)
      · have hf := qif_t hf c__160
        refine lv_aload_n hx hb dL_ranks_238 rfl (lv_at hl 2 rfl) ?_
        refine lv_iload hx hb dL_ranks_239 (lv_at hl 8 rfl) ?_
        obtain ⟨g_170, hf⟩ := qgd hf
        obtain ⟨j_171, ej_171⟩ : ∃ y : Nat, y = (x7).toNatClampNeg := ⟨_, rfl⟩
        have hf := qnm_t hf ej_171
        have hj_171 : j_171 < n := by rw [ej_171]; exact lq_lt g_170
        refine l_ald hC hR lgr_m0 (j := j_171) g_170 ej_171.symm dL_ranks_241 ?_
        refine lv_iconst (v := 2) hx hb dL_ranks_242 (by decide) ?_
        refine l_ild hC hR (lgr_mr hj_171) (j := 2) (by decide) (by decide) dL_ranks_243 ?_
        refine lv_aload_n hx hb dL_ranks_244 rfl (lv_at hl 2 rfl) ?_
        refine lv_iload hx hb dL_ranks_245 (lv_at hl 7 rfl) ?_
        obtain ⟨g_172, hf⟩ := qgd hf
        obtain ⟨j_173, ej_173⟩ : ∃ y : Nat, y = (x6).toNatClampNeg := ⟨_, rfl⟩
        have hf := qnm_t hf ej_173
        have hj_173 : j_173 < n := by rw [ej_173]; exact lq_lt g_172
        refine l_ald hC hR lgr_m0 (j := j_173) g_172 ej_173.symm dL_ranks_247 ?_
        refine lv_iconst (v := 2) hx hb dL_ranks_248 (by decide) ?_
        refine l_ild hC hR (lgr_mr hj_173) (j := 2) (by decide) (by decide) dL_ranks_249 ?_
        refine lv_isub hx hb dL_ranks_250 ?_
        refine lv_goto (tgt := 255) hx hb dL_ranks_251 (by decide) ?_
        exact mL_ranks_L255 (B := B) (S := S) hBM hSM hst hC hr hk42 _ _ _ _ _ _ _ _ _ _ _ _ _ _ _ _ _ _ _ hf hR (lv_sub hl [1, 2, 3, 4, 5, 6, 7, 8] rfl) (by omega) (by omega) (by omega) (by omega)
    · have hf := qif_t hf c__159
      refine lv_aload_n hx hb dL_ranks_216 rfl (lv_at hl 2 rfl) ?_
      refine lv_iload hx hb dL_ranks_217 (lv_at hl 7 rfl) ?_
      obtain ⟨g_174, hf⟩ := qgd hf
      obtain ⟨j_175, ej_175⟩ : ∃ y : Nat, y = (x6).toNatClampNeg := ⟨_, rfl⟩
      have hf := qnm_t hf ej_175
      have hj_175 : j_175 < n := by rw [ej_175]; exact lq_lt g_174
      refine l_ald hC hR lgr_m0 (j := j_175) g_174 ej_175.symm dL_ranks_219 ?_
      refine lv_iconst (v := 3) hx hb dL_ranks_220 (by decide) ?_
      refine l_ild hC hR (lgr_mr hj_175) (j := 3) (by decide) (by decide) dL_ranks_221 ?_
      refine lv_aload_n hx hb dL_ranks_222 rfl (lv_at hl 2 rfl) ?_
      refine lv_iload hx hb dL_ranks_223 (lv_at hl 8 rfl) ?_
      obtain ⟨g_176, hf⟩ := qgd hf
      obtain ⟨j_177, ej_177⟩ : ∃ y : Nat, y = (x7).toNatClampNeg := ⟨_, rfl⟩
      have hf := qnm_t hf ej_177
      have hj_177 : j_177 < n := by rw [ej_177]; exact lq_lt g_176
      refine l_ald hC hR lgr_m0 (j := j_177) g_176 ej_177.symm dL_ranks_225 ?_
      refine lv_iconst (v := 3) hx hb dL_ranks_226 (by decide) ?_
      refine l_ild hC hR (lgr_mr hj_177) (j := 3) (by decide) (by decide) dL_ranks_227 ?_
      refine lv_isub hx hb dL_ranks_228 ?_
      refine lv_goto (tgt := 255) hx hb dL_ranks_229 (by decide) ?_
      exact mL_ranks_L255 (B := B) (S := S) hBM hSM hst hC hr hk42 _ _ _ _ _ _ _ _ _ _ _ _ _ _ _ _ _ _ _ hf hR (lv_sub hl [1, 2, 3, 4, 5, 6, 7, 8] rfl) (by omega) (by omega) (by omega) (by omega)
  · have hf := qif_f hf c__158
    refine lv_iload hx hb dL_ranks_205 (lv_at hl 0 rfl) ?_
    refine lv_goto (tgt := 255) hx hb dL_ranks_207 (by decide) ?_
    exact mL_ranks_L255 (B := B) (S := S) hBM hSM hst hC hr hk42 _ _ _ _ _ _ _ _ _ _ _ _ _ _ _ _ _ _ _ hf hR (lv_sub hl [1, 2, 3, 4, 5, 6, 7, 8] rfl) (by omega) (by omega) (by omega) (by omega)
def fL_ranks_L84  (k42 : (qMem → Nat → (Nat → Nat → Int32) → (Nat → Int32) → (Nat → Int32) → Int32 → Int32 → Option (Int32 × qMem))) (w : qMem) (n : Nat) (M : Nat → Nat → Int32) (f6 : Nat → Int32) (f10 : Nat → Int32) (x4 : Int32) (x5 : Int32) (s0 : Int32) : Option (Int32 × qMem) :=
  qbd2 (fL_many n M x5) fun (r_142 : Int32) (M_143 : Nat → Nat → Int32) =>
  if x4 < r_142 then
    if s0 < 0 then
      none
    else
      if qin s0 n = true then
      qnm ((s0).toNatClampNeg) fun (j_147 : Nat) =>
      if M_143 j_147 0 = x5 then
        if qin x5 4 = true then
        qnm (f10 (x5).toNatClampNeg) fun (x_150 : Int32) =>
        if 0 ≤ x_150 then
          if x5 = 1 then
            if qin x_150 n = true then
            qnm ((x_150).toNatClampNeg) fun (j_183 : Nat) =>
            if qin s0 n = true then
            qnm ((s0).toNatClampNeg) fun (j_185 : Nat) =>
            fL_ranks_L198 k42 w n M_143 f6 f10 x4 x5 s0 x_150 ((M_143 j_183 2) - (M_143 j_185 2))
            else none
            else none
          else
            if x5 = 2 then
              if qin x_150 n = true then
              qnm ((x_150).toNatClampNeg) fun (j_179 : Nat) =>
              if qin s0 n = true then
              qnm ((s0).toNatClampNeg) fun (j_181 : Nat) =>
              fL_ranks_L198 k42 w n M_143 f6 f10 x4 x5 s0 x_150 ((M_143 j_179 3) - (M_143 j_181 3))
              else none
              else none
            else
              if qin x_150 n = true then
              qnm ((x_150).toNatClampNeg) fun (j_155 : Nat) =>
              if qin s0 n = true then
              qnm ((s0).toNatClampNeg) fun (j_157 : Nat) =>
              fL_ranks_L198 k42 w n M_143 f6 f10 x4 x5 s0 x_150 ((M_143 j_155 6) - (M_143 j_157 6))
              else none
              else none
        else
          fL_ranks_L198 k42 w n M_143 f6 f10 x4 x5 s0 x_150 1
        else none
      else
        none
      else none
  else
    if s0 = (-13) then
      qnm (x5 + 1) fun (x_187 : Int32) =>
      k42 w n M_143 f6 f10 x4 x_187
    else
      none
set_option maxHeartbeats 4000000 in
set_option maxRecDepth 100000 in
theorem mL_ranks_L84 {p : Program} {l : Launch} {e : Env} {s : State} {m : MethodId} {args : Array Value} {below : List Frame} {meth : Method} {c : Code} {D : va_G} {G : Nat → ClassId} {ad : Nat → Nat} {w0 : qMem} {rF : Int32} {wF : qMem} {k42 : (qMem → Nat → (Nat → Nat → Int32) → (Nat → Int32) → (Nat → Int32) → Int32 → Int32 → Option (Int32 × qMem))} {B S : Nat} (hBM : B ≤ 344) (hSM : S ≤ 2078) (hst : l.stackTraces = false) (hC : lCx p c cL_ranks 13 s m args meth RL D G ad (lX (qcells G ad w0) [] [])) (hr : meth.sig.returnType = some .boolean) (hk42 : ∀ (w : qMem) (n : Nat) (M : Nat → Nat → Int32) (f6 : Nat → Int32) (f10 : Nat → Int32) (x4 : Int32) (x5 : Int32) (gq : Nat) (gr : Nat → Nat) (q6 : Nat) (q10 : Nat) (cc cs : Nat) (H : Heap) (locs : List Loc) (ls : Array Slot), k42 w n M f6 f10 x4 x5 = some (rF, wF) → lR D (lX (qcells G ad w0) [] []) (lX (qcells G ad w) [(q6, .inl (G 0, 4, .inl f6)), (q10, .inl (G 0, 4, .inl f10))] (lgr G gq gr n M)) s H locs → lv_has ls 13 [(0, .ref (ad 228)), (1, .ref gq), (2, .ref q6), (3, .ref q10), (4, .int x4), (5, .int x5)] → cc ≤ B → cs ≤ S → W p l e (qrm 10 344 2078) s m args below meth c H locs cc cs (MQ below (lQi D (lX (qcells G ad w0) [] []) (lX (qcells G ad wF) [] []) s rF) args s 344 2078 (va_A (lX (qcells G ad w0) [] []) s.heap.size)) (F0 m 42 ls [])) : ∀ (w : qMem) (n : Nat) (M : Nat → Nat → Int32) (f6 : Nat → Int32) (f10 : Nat → Int32) (x4 : Int32) (x5 : Int32) (s0 : Int32) (gq : Nat) (gr : Nat → Nat) (q6 : Nat) (q10 : Nat) (cc cs : Nat) (H : Heap) (locs : List Loc) (ls : Array Slot), fL_ranks_L84 k42 w n M f6 f10 x4 x5 s0 = some (rF, wF) → lR D (lX (qcells G ad w0) [] []) (lX (qcells G ad w) [(q6, .inl (G 0, 4, .inl f6)), (q10, .inl (G 0, 4, .inl f10))] (lgr G gq gr n M)) s H locs → lv_has ls 13 [(0, .ref (ad 228)), (1, .ref gq), (2, .ref q6), (3, .ref q10), (4, .int x4), (5, .int x5)] → cc ≤ B → cs ≤ S → cc ≤ 344 → cs ≤ 2078 → W p l e (qrm 10 344 2078) s m args below meth c H locs cc cs (MQ below (lQi D (lX (qcells G ad w0) [] []) (lX (qcells G ad wF) [] []) s rF) args s 344 2078 (va_A (lX (qcells G ad w0) [] []) s.heap.size)) (F0 m 84 ls [.int s0]) := by
  have hx := hC.1
  have hb := hC.2.1
  have hJ := hC.2.2.2.2.2.2.2.1
  intro w n M f6 f10 x4 x5 s0 gq gr q6 q10 cc cs H locs ls hf hR hl hcB hsB hcM hsM
  unfold fL_ranks_L84 at hf
  refine lv_istore (lv' := [(6, .int s0), (0, .ref (ad 228)), (1, .ref gq), (2, .ref q6), (3, .ref q10), (4, .int x4), (5, .int x5)]) hx hb dL_ranks_84 hl (by decide) rfl (fun ls hl => ?_)
  refine lv_iload hx hb dL_ranks_86 (lv_at hl 5 rfl) ?_
  refine lv_aload_n hx hb dL_ranks_88 rfl (lv_at hl 2 rfl) ?_
  refine lv_iload hx hb dL_ranks_89 (lv_at hl 6 rfl) ?_
  obtain ⟨r_142, M_143, hq_141, hf⟩ := qbd2_s hf
  refine l_callSi hC hR (mL_many hJ hst hq_141) lNo_k trivial lp_GR lp_GR1 qkl_747 qkl_748 qkl_18 qkl_749 qhd_L_many ⟨Nat.le_of_ble_eq_true rfl, Nat.le_of_ble_eq_true rfl⟩ hl.1 rfl (Nat.le_of_ble_eq_true rfl) dL_ranks_91 ⟨by show _ ≤ 344; omega, by show _ ≤ 2078; omega⟩ (fun H locs hR hk => ?_)
  refine lv_icmp_lt (tgt := 106) hx hb dL_ranks_94 (by decide) (fun c__144 => ?_) (fun c__144 => ?_)
  · have hf := qif_t hf c__144
    refine lv_iload hx hb dL_ranks_106 (lv_at hl 0 rfl) ?_
    refine lv_if_lt (tgt := 122) hx hb dL_ranks_108 (by decide) (fun c__145 => ?_) (fun c__145 => ?_)
    · have hf := qif_t hf c__145
      exact nomatch hf
    · have hf := qif_f hf c__145
      refine lv_aload_n hx hb dL_ranks_111 rfl (lv_at hl 2 rfl) ?_
      refine lv_iload hx hb dL_ranks_112 (lv_at hl 0 rfl) ?_
      obtain ⟨g_146, hf⟩ := qgd hf
      obtain ⟨j_147, ej_147⟩ : ∃ y : Nat, y = (s0).toNatClampNeg := ⟨_, rfl⟩
      have hf := qnm_t hf ej_147
      have hj_147 : j_147 < n := by rw [ej_147]; exact lq_lt g_146
      refine l_ald hC hR lgr_m0 (j := j_147) g_146 ej_147.symm dL_ranks_114 ?_
      refine lv_iconst (v := 0) hx hb dL_ranks_115 (by decide) ?_
      refine l_ild hC hR (lgr_mr hj_147) (j := 0) (by decide) (by decide) dL_ranks_116 ?_
      refine lv_iload hx hb dL_ranks_117 (lv_at hl 6 rfl) ?_
      refine lv_icmp_eq (tgt := 124) hx hb dL_ranks_119 (by decide) (fun c__148 => ?_) (fun c__148 => ?_)
      · have hf := qif_t hf c__148
        refine lv_aload_n hx hb dL_ranks_124 rfl (lv_at hl 4 rfl) ?_
        refine lv_iload hx hb dL_ranks_125 (lv_at hl 6 rfl) ?_
        obtain ⟨g_149, hf⟩ := qgd hf
        refine l_ild hC hR (lX_mx 1 rfl) (j := (x5).toNatClampNeg) g_149 rfl dL_ranks_127 ?_
        refine lv_topi (fun x_150 ex_150 => ?_)
        have hf := qnm_t hf ex_150
        refine lv_istore (lv' := [(7, .int x_150), (6, .int s0), (0, .ref (ad 228)), (1, .ref gq), (2, .ref q6), (3, .ref q10), (4, .int x4), (5, .int x5)]) hx hb dL_ranks_128 hl (by decide) rfl (fun ls hl => ?_)
        refine lv_iload hx hb dL_ranks_130 (lv_at hl 0 rfl) ?_
        refine lv_if_ge (tgt := 139) hx hb dL_ranks_132 (by decide) (fun c__151 => ?_) (fun c__151 => ?_)
        · have hf := qif_t hf c__151
          refine lv_iload hx hb dL_ranks_139 (lv_at hl 7 rfl) ?_
          refine lv_iconst (v := 1) hx hb dL_ranks_141 (by decide) ?_
          refine lv_icmp_ne (tgt := 161) hx hb dL_ranks_142 (by decide) (fun c__152 => ?_) (fun c__152 => ?_)
          · have hf := qif_f hf c__152
            refine lv_iload hx hb dL_ranks_161 (lv_at hl 7 rfl) ?_
            refine lv_iconst (v := 2) hx hb dL_ranks_163 (by decide) ?_
            refine lv_icmp_ne (tgt := 183) hx hb dL_ranks_164 (by decide) (fun c__153 => ?_) (fun c__153 => ?_)
            · have hf := qif_f hf c__153
              refine lv_aload_n hx hb dL_ranks_183 rfl (lv_at hl 3 rfl) ?_
              refine lv_iload hx hb dL_ranks_184 (lv_at hl 0 rfl) ?_
              obtain ⟨g_154, hf⟩ := qgd hf
              obtain ⟨j_155, ej_155⟩ : ∃ y : Nat, y = (x_150).toNatClampNeg := ⟨_, rfl⟩
              have hf := qnm_t hf ej_155
              have hj_155 : j_155 < n := by rw [ej_155]; exact lq_lt g_154
              refine l_ald hC hR lgr_m0 (j := j_155) g_154 ej_155.symm dL_ranks_186 ?_
              refine lv_bipush (v := 6) hx hb dL_ranks_187 (by decide) ?_
              refine l_ild hC hR (lgr_mr hj_155) (j := 6) (by decide) (by decide) dL_ranks_189 ?_
              refine lv_aload_n hx hb dL_ranks_190 rfl (lv_at hl 3 rfl) ?_
              refine lv_iload hx hb dL_ranks_191 (lv_at hl 1 rfl) ?_
              obtain ⟨g_156, hf⟩ := qgd hf
              obtain ⟨j_157, ej_157⟩ : ∃ y : Nat, y = (s0).toNatClampNeg := ⟨_, rfl⟩
              have hf := qnm_t hf ej_157
              have hj_157 : j_157 < n := by rw [ej_157]; exact lq_lt g_156
              refine l_ald hC hR lgr_m0 (j := j_157) g_156 ej_157.symm dL_ranks_193 ?_
              refine lv_bipush (v := 6) hx hb dL_ranks_194 (by decide) ?_
              refine l_ild hC hR (lgr_mr hj_157) (j := 6) (by decide) (by decide) dL_ranks_196 ?_
              refine lv_isub hx hb dL_ranks_197 ?_
              exact mL_ranks_L198 (B := B) (S := S) hBM hSM hst hC hr hk42 _ _ _ _ _ _ _ _ _ _ _ _ _ _ _ _ _ _ _ hf hR (lv_sub hl [2, 3, 4, 5, 6, 7, 1, 0] rfl) (by omega) (by omega) (by omega) (by omega)
            · have hf := qif_t hf c__153
              refine lv_aload_n hx hb dL_ranks_167 rfl (lv_at hl 3 rfl) ?_
              refine lv_iload hx hb dL_ranks_168 (lv_at hl 0 rfl) ?_
              obtain ⟨g_178, hf⟩ := qgd hf
              obtain ⟨j_179, ej_179⟩ : ∃ y : Nat, y = (x_150).toNatClampNeg := ⟨_, rfl⟩
              have hf := qnm_t hf ej_179
              have hj_179 : j_179 < n := by rw [ej_179]; exact lq_lt g_178
              refine l_ald hC hR lgr_m0 (j := j_179) g_178 ej_179.symm dL_ranks_170 ?_
              refine lv_iconst (v := 3) hx hb dL_ranks_171 (by decide) ?_
              refine l_ild hC hR (lgr_mr hj_179) (j := 3) (by decide) (by decide) dL_ranks_172 ?_
              refine lv_aload_n hx hb dL_ranks_173 rfl (lv_at hl 3 rfl) ?_
              refine lv_iload hx hb dL_ranks_174 (lv_at hl 1 rfl) ?_
              obtain ⟨g_180, hf⟩ := qgd hf
              obtain ⟨j_181, ej_181⟩ : ∃ y : Nat, y = (s0).toNatClampNeg := ⟨_, rfl⟩
              have hf := qnm_t hf ej_181
              have hj_181 : j_181 < n := by rw [ej_181]; exact lq_lt g_180
              refine l_ald hC hR lgr_m0 (j := j_181) g_180 ej_181.symm dL_ranks_176 ?_
              refine lv_iconst (v := 3) hx hb dL_ranks_177 (by decide) ?_
              refine l_ild hC hR (lgr_mr hj_181) (j := 3) (by decide) (by decide) dL_ranks_178 ?_
              refine lv_isub hx hb dL_ranks_179 ?_
              refine lv_goto (tgt := 198) hx hb dL_ranks_180 (by decide) ?_
              exact mL_ranks_L198 (B := B) (S := S) hBM hSM hst hC hr hk42 _ _ _ _ _ _ _ _ _ _ _ _ _ _ _ _ _ _ _ hf hR (lv_sub hl [2, 3, 4, 5, 6, 7, 1, 0] rfl) (by omega) (by omega) (by omega) (by omega)
          · have hf := qif_t hf c__152
            refine lv_aload_n hx hb dL_ranks_145 rfl (lv_at hl 3 rfl) ?_
            refine lv_iload hx hb dL_ranks_146 (lv_at hl 0 rfl) ?_
            obtain ⟨g_182, hf⟩ := qgd hf
            obtain ⟨j_183, ej_183⟩ : ∃ y : Nat, y = (x_150).toNatClampNeg := ⟨_, rfl⟩
            have hf := qnm_t hf ej_183
            have hj_183 : j_183 < n := by rw [ej_183]; exact lq_lt g_182
            refine l_ald hC hR lgr_m0 (j := j_183) g_182 ej_183.symm dL_ranks_148 ?_
            refine lv_iconst (v := 2) hx hb dL_ranks_149 (by decide) ?_
            refine l_ild hC hR (lgr_mr hj_183) (j := 2) (by decide) (by decide) dL_ranks_150 ?_
            refine lv_aload_n hx hb dL_ranks_151 rfl (lv_at hl 3 rfl) ?_
            refine lv_iload hx hb dL_ranks_152 (lv_at hl 1 rfl) ?_
            obtain ⟨g_184, hf⟩ := qgd hf
            obtain ⟨j_185, ej_185⟩ : ∃ y : Nat, y = (s0).toNatClampNeg := ⟨_, rfl⟩
            have hf := qnm_t hf ej_185
            have hj_185 : j_185 < n := by rw [ej_185]; exact lq_lt g_184
            refine l_ald hC hR lgr_m0 (j := j_185) g_184 ej_185.symm dL_ranks_154 ?_
            refine lv_iconst (v := 2) hx hb dL_ranks_155 (by decide) ?_
            refine l_ild hC hR (lgr_mr hj_185) (j := 2) (by decide) (by decide) dL_ranks_156 ?_
            refine lv_isub hx hb dL_ranks_157 ?_
            refine lv_goto (tgt := 198) hx hb dL_ranks_158 (by decide) ?_
            exact mL_ranks_L198 (B := B) (S := S) hBM hSM hst hC hr hk42 _ _ _ _ _ _ _ _ _ _ _ _ _ _ _ _ _ _ _ hf hR (lv_sub hl [2, 3, 4, 5, 6, 7, 1, 0] rfl) (by omega) (by omega) (by omega) (by omega)
        · have hf := qif_f hf c__151
          refine lv_iconst (v := 1) hx hb dL_ranks_135 (by decide) ?_
          refine lv_goto (tgt := 198) hx hb dL_ranks_136 (by decide) ?_
          exact mL_ranks_L198 (B := B) (S := S) hBM hSM hst hC hr hk42 _ _ _ _ _ _ _ _ _ _ _ _ _ _ _ _ _ _ _ hf hR (lv_sub hl [2, 3, 4, 5, 6, 7, 1, 0] rfl) (by omega) (by omega) (by omega) (by omega)
      · have hf := qif_f hf c__148
        exact nomatch hf
  · have hf := qif_f hf c__144
    refine lv_iload hx hb dL_ranks_97 (lv_at hl 0 rfl) ?_
    refine lv_bipush (v := (-13)) hx hb dL_ranks_99 (by decide) ?_
    refine lv_icmp_eq (tgt := 290) hx hb dL_ranks_101 (by decide) (fun c__186 => ?_) (fun c__186 => ?_)
    · have hf := qif_t hf c__186
      obtain ⟨x_187, ex_187⟩ : ∃ y : Int32, y = x5 + 1 := ⟨_, rfl⟩
      have hf := qnm_t hf ex_187
      refine lv_iinc (v := x_187) (lv' := [(5, .int x_187), (6, .int s0), (0, .ref (ad 228)), (1, .ref gq), (2, .ref q6), (3, .ref q10), (4, .int x4)]) hx hb dL_ranks_290 hl (k := 6) rfl (by rw [ex_187]; rfl) (by decide) rfl (fun ls hl => ?_)
      refine lv_goto (tgt := 42) hx hb dL_ranks_293 (by decide) ?_
      exact hk42 _ _ _ _ _ _ _ _ _ _ _ _ _ _ _ _ hf hR (lv_sub hl [2, 3, 4, 5, 6, 0] rfl) (by omega) (by omega)
    · have hf := qif_f hf c__186
      exact nomatch hf
def fL_ranks_L42  (k32 : (qMem → Nat → (Nat → Nat → Int32) → (Nat → Int32) → (Nat → Int32) → Int32 → Option (Int32 × qMem))) : Nat → qMem → Nat → (Nat → Nat → Int32) → (Nat → Int32) → (Nat → Int32) → Int32 → Int32 → Option (Int32 × qMem)
  | 0, _, _, _, _, _, _, _ => none
  | k + 1, w, n, M, f6, f10, x4, x5 =>
    if (4 : Int32) ≤ x5 then
      qnm (x4 + 1) fun (x_135 : Int32) =>
      k32 w n M f6 f10 x_135
    else
      if x5 = 1 then
        qbd2 (fL_cupAt w x4) fun (r_191 : Int32) (w_192 : qMem) =>
        fL_ranks_L84 (fL_ranks_L42 k32 k) w_192 n M f6 f10 x4 x5 r_191
      else
        if x5 = 2 then
          qbd2 (fL_lampAt w x4) fun (r_188 : Int32) (w_189 : qMem) =>
          fL_ranks_L84 (fL_ranks_L42 k32 k) w_189 n M f6 f10 x4 x5 r_188
        else
          qbd2 (fL_catAt w x4) fun (r_138 : Int32) (w_139 : qMem) =>
          fL_ranks_L84 (fL_ranks_L42 k32 k) w_139 n M f6 f10 x4 x5 r_138
set_option maxHeartbeats 4000000 in
set_option maxRecDepth 100000 in
theorem mL_ranks_L42 {p : Program} {l : Launch} {e : Env} {s : State} {m : MethodId} {args : Array Value} {below : List Frame} {meth : Method} {c : Code} {D : va_G} {G : Nat → ClassId} {ad : Nat → Nat} {w0 : qMem} {rF : Int32} {wF : qMem} {k32 : (qMem → Nat → (Nat → Nat → Int32) → (Nat → Int32) → (Nat → Int32) → Int32 → Option (Int32 × qMem))} {B S : Nat} (hBM : B ≤ 344) (hSM : S ≤ 2078) (hst : l.stackTraces = false) (hC : lCx p c cL_ranks 13 s m args meth RL D G ad (lX (qcells G ad w0) [] [])) (hr : meth.sig.returnType = some .boolean) (hk32 : ∀ (w : qMem) (n : Nat) (M : Nat → Nat → Int32) (f6 : Nat → Int32) (f10 : Nat → Int32) (x4 : Int32) (gq : Nat) (gr : Nat → Nat) (q6 : Nat) (q10 : Nat) (cc cs : Nat) (H : Heap) (locs : List Loc) (ls : Array Slot), k32 w n M f6 f10 x4 = some (rF, wF) → lR D (lX (qcells G ad w0) [] []) (lX (qcells G ad w) [(q6, .inl (G 0, 4, .inl f6)), (q10, .inl (G 0, 4, .inl f10))] (lgr G gq gr n M)) s H locs → lv_has ls 13 [(0, .ref (ad 228)), (1, .ref gq), (2, .ref q6), (3, .ref q10), (4, .int x4)] → cc ≤ B → cs ≤ S → W p l e (qrm 10 344 2078) s m args below meth c H locs cc cs (MQ below (lQi D (lX (qcells G ad w0) [] []) (lX (qcells G ad wF) [] []) s rF) args s 344 2078 (va_A (lX (qcells G ad w0) [] []) s.heap.size)) (F0 m 32 ls [])) : ∀ (k : Nat), ∀ (w : qMem) (n : Nat) (M : Nat → Nat → Int32) (f6 : Nat → Int32) (f10 : Nat → Int32) (x4 : Int32) (x5 : Int32) (gq : Nat) (gr : Nat → Nat) (q6 : Nat) (q10 : Nat) (cc cs : Nat) (H : Heap) (locs : List Loc) (ls : Array Slot), fL_ranks_L42 k32 k w n M f6 f10 x4 x5 = some (rF, wF) → lR D (lX (qcells G ad w0) [] []) (lX (qcells G ad w) [(q6, .inl (G 0, 4, .inl f6)), (q10, .inl (G 0, 4, .inl f10))] (lgr G gq gr n M)) s H locs → lv_has ls 13 [(0, .ref (ad 228)), (1, .ref gq), (2, .ref q6), (3, .ref q10), (4, .int x4), (5, .int x5)] → cc + 1 * k ≤ B → cs + 6 * k ≤ S → cc + 1 * k ≤ 344 → cs + 6 * k ≤ 2078 → W p l e (qrm 10 344 2078) s m args below meth c H locs cc cs (MQ below (lQi D (lX (qcells G ad w0) [] []) (lX (qcells G ad wF) [] []) s rF) args s 344 2078 (va_A (lX (qcells G ad w0) [] []) s.heap.size)) (F0 m 42 ls []) := by
  have hx := hC.1
  have hb := hC.2.1
  have hJ := hC.2.2.2.2.2.2.2.1
  intro k
  induction k with
  | zero => intro w n M f6 f10 x4 x5 gq gr q6 q10 cc cs H locs ls hf; exact nomatch (show (none : Option (Int32 × qMem)) = some _ from hf)
  | succ k ih =>
    intro w n M f6 f10 x4 x5 gq gr q6 q10 cc cs H locs ls hf hR hl hcB hsB hcM hsM
    rw [fL_ranks_L42] at hf
    refine lv_iload hx hb dL_ranks_42 (lv_at hl 5 rfl) ?_
    refine lv_iconst (v := 4) hx hb dL_ranks_44 (by decide) ?_
    refine lv_icmp_ge (tgt := 296) hx hb dL_ranks_45 (by decide) (fun c__134 => ?_) (fun c__134 => ?_)
    · have hf := qif_t hf c__134
      obtain ⟨x_135, ex_135⟩ : ∃ y : Int32, y = x4 + 1 := ⟨_, rfl⟩
      have hf := qnm_t hf ex_135
      refine lv_iinc (v := x_135) (lv' := [(4, .int x_135), (0, .ref (ad 228)), (1, .ref gq), (2, .ref q6), (3, .ref q10), (5, .int x5)]) hx hb dL_ranks_296 hl (k := 4) rfl (by rw [ex_135]; rfl) (by decide) rfl (fun ls hl => ?_)
      refine lv_goto (tgt := 32) hx hb dL_ranks_299 (by decide) ?_
      exact hk32 _ _ _ _ _ _ _ _ _ _ _ _ _ _ _ hf hR (lv_sub hl [1, 2, 3, 4, 0] rfl) (by omega) (by omega)
    · have hf := qif_f hf c__134
      refine lv_iload hx hb dL_ranks_48 (lv_at hl 5 rfl) ?_
      refine lv_iconst (v := 1) hx hb dL_ranks_50 (by decide) ?_
      refine lv_icmp_ne (tgt := 63) hx hb dL_ranks_51 (by decide) (fun c__136 => ?_) (fun c__136 => ?_)
      · have hf := qif_f hf c__136
        refine lv_iload hx hb dL_ranks_63 (lv_at hl 5 rfl) ?_
        refine lv_iconst (v := 2) hx hb dL_ranks_65 (by decide) ?_
        refine lv_icmp_ne (tgt := 78) hx hb dL_ranks_66 (by decide) (fun c__137 => ?_) (fun c__137 => ?_)
        · have hf := qif_f hf c__137
          refine lv_aload_n hx hb dL_ranks_78 rfl (lv_at hl 0 rfl) ?_
          refine lv_iload hx hb dL_ranks_79 (lv_at hl 4 rfl) ?_
          obtain ⟨r_138, w_139, hq_140, hf⟩ := qbd2_s hf
          refine l_callSWi hC hR (l_ofHW hJ (mL_catAt hJ hst hq_140)) lNo_k trivial lp_C lp_C.symm qkl_816 qkl_817 qkl_18 qkl_818 qhd_L_catAt ⟨Nat.le_of_ble_eq_true rfl, Nat.le_of_ble_eq_true rfl⟩ hl.1 rfl (Nat.le_of_ble_eq_true rfl) dL_ranks_81 ⟨by show _ ≤ 344; omega, by show _ ≤ 2078; omega⟩ (fun H locs hR hk => ?_)
          exact mL_ranks_L84 (B := cc + 1) (S := cs + 6) (by omega) (by omega) hst hC hr (fun y0 y1 y2 y3 y4 y5 y6 y7 y8 y9 y10 cc2 cs2 H2 locs2 ls2 hf2 hR2 hl2 hc2 hs2 => ih y0 y1 y2 y3 y4 y5 y6 y7 y8 y9 y10 cc2 cs2 H2 locs2 ls2 hf2 hR2 hl2 (by omega) (by omega) (by omega) (by omega)) _ _ _ _ _ _ _ _ _ _ _ _ _ _ _ _ _ hf hR (lv_sub hl [0, 1, 2, 3, 4, 5] rfl) (by omega) (by omega) (by omega) (by omega)
        · have hf := qif_t hf c__137
          refine lv_aload_n hx hb dL_ranks_69 rfl (lv_at hl 0 rfl) ?_
          refine lv_iload hx hb dL_ranks_70 (lv_at hl 4 rfl) ?_
          obtain ⟨r_188, w_189, hq_190, hf⟩ := qbd2_s hf
          refine l_callSWi hC hR (l_ofHW hJ (mL_lampAt hJ hst hq_190)) lNo_k trivial lp_C lp_C.symm qkl_809 qkl_810 qkl_18 qkl_811 qhd_L_lampAt ⟨Nat.le_of_ble_eq_true rfl, Nat.le_of_ble_eq_true rfl⟩ hl.1 rfl (Nat.le_of_ble_eq_true rfl) dL_ranks_72 ⟨by show _ ≤ 344; omega, by show _ ≤ 2078; omega⟩ (fun H locs hR hk => ?_)
          refine lv_goto (tgt := 84) hx hb dL_ranks_75 (by decide) ?_
          exact mL_ranks_L84 (B := cc + 1) (S := cs + 6) (by omega) (by omega) hst hC hr (fun y0 y1 y2 y3 y4 y5 y6 y7 y8 y9 y10 cc2 cs2 H2 locs2 ls2 hf2 hR2 hl2 hc2 hs2 => ih y0 y1 y2 y3 y4 y5 y6 y7 y8 y9 y10 cc2 cs2 H2 locs2 ls2 hf2 hR2 hl2 (by omega) (by omega) (by omega) (by omega)) _ _ _ _ _ _ _ _ _ _ _ _ _ _ _ _ _ hf hR (lv_sub hl [0, 1, 2, 3, 4, 5] rfl) (by omega) (by omega) (by omega) (by omega)
      · have hf := qif_t hf c__136
        refine lv_aload_n hx hb dL_ranks_54 rfl (lv_at hl 0 rfl) ?_
        refine lv_iload hx hb dL_ranks_55 (lv_at hl 4 rfl) ?_
        obtain ⟨r_191, w_192, hq_193, hf⟩ := qbd2_s hf
        refine l_callSWi hC hR (l_ofHW hJ (mL_cupAt hJ hst hq_193)) lNo_k trivial lp_C lp_C.symm qkl_782 qkl_783 qkl_18 qkl_784 qhd_L_cupAt ⟨Nat.le_of_ble_eq_true rfl, Nat.le_of_ble_eq_true rfl⟩ hl.1 rfl (Nat.le_of_ble_eq_true rfl) dL_ranks_57 ⟨by show _ ≤ 344; omega, by show _ ≤ 2078; omega⟩ (fun H locs hR hk => ?_)
        refine lv_goto (tgt := 84) hx hb dL_ranks_60 (by decide) ?_
        exact mL_ranks_L84 (B := cc + 1) (S := cs + 6) (by omega) (by omega) hst hC hr (fun y0 y1 y2 y3 y4 y5 y6 y7 y8 y9 y10 cc2 cs2 H2 locs2 ls2 hf2 hR2 hl2 hc2 hs2 => ih y0 y1 y2 y3 y4 y5 y6 y7 y8 y9 y10 cc2 cs2 H2 locs2 ls2 hf2 hR2 hl2 (by omega) (by omega) (by omega) (by omega)) _ _ _ _ _ _ _ _ _ _ _ _ _ _ _ _ _ hf hR (lv_sub hl [0, 1, 2, 3, 4, 5] rfl) (by omega) (by omega) (by omega) (by omega)
def fL_ranks_L32   : Nat → qMem → Nat → (Nat → Nat → Int32) → (Nat → Int32) → (Nat → Int32) → Int32 → Option (Int32 × qMem)
  | 0, _, _, _, _, _, _ => none
  | k + 1, w, n, M, f6, f10, x4 =>
    if Int32.ofNat n ≤ x4 then
      fL_ranks_L314 13 w n M 0 0 0 0
    else
      fL_ranks_L42 (fL_ranks_L32 k) 4 w n M f6 f10 x4 1
set_option maxHeartbeats 4000000 in
set_option maxRecDepth 100000 in
theorem mL_ranks_L32 {p : Program} {l : Launch} {e : Env} {s : State} {m : MethodId} {args : Array Value} {below : List Frame} {meth : Method} {c : Code} {D : va_G} {G : Nat → ClassId} {ad : Nat → Nat} {w0 : qMem} {rF : Int32} {wF : qMem} (hst : l.stackTraces = false) (hC : lCx p c cL_ranks 13 s m args meth RL D G ad (lX (qcells G ad w0) [] [])) (hr : meth.sig.returnType = some .boolean) : ∀ (k : Nat), ∀ (w : qMem) (n : Nat) (M : Nat → Nat → Int32) (f6 : Nat → Int32) (f10 : Nat → Int32) (x4 : Int32) (gq : Nat) (gr : Nat → Nat) (q6 : Nat) (q10 : Nat) (cc cs : Nat) (H : Heap) (locs : List Loc) (ls : Array Slot), fL_ranks_L32 k w n M f6 f10 x4 = some (rF, wF) → lR D (lX (qcells G ad w0) [] []) (lX (qcells G ad w) [(q6, .inl (G 0, 4, .inl f6)), (q10, .inl (G 0, 4, .inl f10))] (lgr G gq gr n M)) s H locs → lv_has ls 13 [(0, .ref (ad 228)), (1, .ref gq), (2, .ref q6), (3, .ref q10), (4, .int x4)] → cc + 4 * k + 68 ≤ 344 → cs + 24 * k + 408 ≤ 2078 → W p l e (qrm 10 344 2078) s m args below meth c H locs cc cs (MQ below (lQi D (lX (qcells G ad w0) [] []) (lX (qcells G ad wF) [] []) s rF) args s 344 2078 (va_A (lX (qcells G ad w0) [] []) s.heap.size)) (F0 m 32 ls []) := by
  have hx := hC.1
  have hb := hC.2.1
  have hJ := hC.2.2.2.2.2.2.2.1
  intro k
  induction k with
  | zero => intro w n M f6 f10 x4 gq gr q6 q10 cc cs H locs ls hf; exact nomatch (show (none : Option (Int32 × qMem)) = some _ from hf)
  | succ k ih =>
    intro w n M f6 f10 x4 gq gr q6 q10 cc cs H locs ls hf hR hl hcM hsM
    rw [fL_ranks_L32] at hf
    refine lv_iload hx hb dL_ranks_32 (lv_at hl 4 rfl) ?_
    refine lv_aload_n hx hb dL_ranks_34 rfl (lv_at hl 1 rfl) ?_
    refine l_alen hC hR lgr_m0 rfl rfl dL_ranks_35 ?_
    refine lv_icmp_ge (tgt := 302) hx hb dL_ranks_36 (by decide) (fun c__13 => ?_) (fun c__13 => ?_)
    · have hf := qif_t hf c__13
      refine lv_iconst (v := 0) hx hb dL_ranks_302 (by decide) ?_
      refine lv_istore (lv' := [(4, .int 0), (0, .ref (ad 228)), (1, .ref gq), (2, .ref q6), (3, .ref q10)]) hx hb dL_ranks_303 hl (by decide) rfl (fun ls hl => ?_)
      refine lv_iconst (v := 0) hx hb dL_ranks_305 (by decide) ?_
      refine lv_istore (lv' := [(5, .int 0), (4, .int 0), (0, .ref (ad 228)), (1, .ref gq), (2, .ref q6), (3, .ref q10)]) hx hb dL_ranks_306 hl (by decide) rfl (fun ls hl => ?_)
      refine lv_iconst (v := 0) hx hb dL_ranks_308 (by decide) ?_
      refine lv_istore (lv' := [(6, .int 0), (5, .int 0), (4, .int 0), (0, .ref (ad 228)), (1, .ref gq), (2, .ref q6), (3, .ref q10)]) hx hb dL_ranks_309 hl (by decide) rfl (fun ls hl => ?_)
      refine lv_iconst (v := 0) hx hb dL_ranks_311 (by decide) ?_
      refine lv_istore (lv' := [(7, .int 0), (6, .int 0), (5, .int 0), (4, .int 0), (0, .ref (ad 228)), (1, .ref gq), (2, .ref q6), (3, .ref q10)]) hx hb dL_ranks_312 hl (by decide) rfl (fun ls hl => ?_)
      have hR := lR_pick hR [] (ex1 := []) (g1 := (lgr G gq gr n M)) (by decide) rfl (Or.inl rfl)
      exact mL_ranks_L314 hst hC hr 13 _ _ _ _ _ _ _ _ _ _ _ _ _ _ hf hR (lv_sub hl [4, 5, 3, 2, 1, 0] rfl) (by omega) (by omega)
    · have hf := qif_f hf c__13
      refine lv_iconst (v := 1) hx hb dL_ranks_39 (by decide) ?_
      refine lv_istore (lv' := [(5, .int 1), (0, .ref (ad 228)), (1, .ref gq), (2, .ref q6), (3, .ref q10), (4, .int x4)]) hx hb dL_ranks_40 hl (by decide) rfl (fun ls hl => ?_)
      exact mL_ranks_L42 (B := cc + 4) (S := cs + 24) (by omega) (by omega) hst hC hr (fun y0 y1 y2 y3 y4 y5 y6 y7 y8 y9 cc2 cs2 H2 locs2 ls2 hf2 hR2 hl2 hc2 hs2 => ih y0 y1 y2 y3 y4 y5 y6 y7 y8 y9 cc2 cs2 H2 locs2 ls2 hf2 hR2 hl2 (by omega) (by omega)) 4 _ _ _ _ _ _ _ _ _ _ _ _ _ _ _ _ hf hR (lv_sub hl [1, 2, 3, 4, 5, 0] rfl) (by omega) (by omega) (by omega) (by omega)
def fL_ranks (w0 : qMem) : Option (Int32 × qMem) :=
  qbd3 (fL_props w0) fun (n_2 : Nat) (M_3 : Nat → Nat → Int32) (w_4 : qMem) =>
  qnm (upd (fun _ => 0) 0 (-1)) fun (f_9 : Nat → Int32) =>
  qnm (upd f_9 1 (-1)) fun (f_10 : Nat → Int32) =>
  qnm (upd f_10 2 (-1)) fun (f_11 : Nat → Int32) =>
  qnm (upd f_11 3 (-1)) fun (f_12 : Nat → Int32) =>
  fL_ranks_L32 13 w_4 n_2 M_3 (fun _ => 0) f_12 0
theorem qhd_L_ranks : yL_ranks.cls ≠ "java/lang/invoke/MethodHandle" ∧ yL_ranks.cls ≠ "java/lang/invoke/VarHandle" ∧ (parseMethodDescriptor yL_ranks.desc).map (fun d => d.parameters.length) = some 1 := ⟨by decide +kernel, by decide +kernel, by decide +kernel⟩
set_option maxHeartbeats 4000000 in
set_option maxRecDepth 100000 in
theorem mL_ranks {l : Launch} {D : va_G} {G : Nat → ClassId} {ad : Nat → Nat} {w0 : qMem} {rF : Int32} {wF : qMem} (hJ : qInj ad) (hst : l.stackTraces = false) (hf : fL_ranks w0 = some (rF, wF)) : lCM l D G ad yL_ranks (Cond.code yL_ranks cL_ranks 13 (some .boolean)) 10 344 2078 [.ref (ad 228)] (lX (qcells G ad w0) [] []) (fun _ _ _ => True) (fun st => lQi D (lX (qcells G ad w0) [] []) (lX (qcells G ad wF) [] []) st rF) := by
  refine l_start RL rfl (by decide +kernel) hJ (fun a b h => by simp only [lQi, lQl, lQr, h]) (Nat.le_of_ble_eq_true rfl) ?_
  intro p e s m args below meth c ls hC hr _ hE hR hl
  have hx := hC.1
  have hb := hC.2.1
  have hl : lv_has ls 13 [(0, .ref (ad 228))] := hl
  unfold fL_ranks at hf
  refine lv_aload_n hx hb dL_ranks_0 rfl (lv_at hl 0 rfl) ?_
  obtain ⟨n_2, M_3, w_4, hq_1, hf⟩ := qbd3_s hf
  refine l_callSr hC hR (mL_props hJ hst hq_1) lNo_k trivial lp_CP (fun _ _ => lp_CP1) qkl_642 qkl_643 qkl_18 qkl_644 qhd_L_props ⟨Nat.le_of_ble_eq_true rfl, Nat.le_of_ble_eq_true rfl⟩ hl.1 rfl (Nat.le_of_ble_eq_true rfl) dL_ranks_1 ⟨by show _ ≤ 344; omega, by show _ ≤ 2078; omega⟩ (fun _ _ => lNo_k) (fun u_6 q_5 H locs _ hR hk _ => ?_)
  refine lv_astore_n (lv' := [(1, .ref q_5), (0, .ref (ad 228))]) hx hb dL_ranks_4 rfl hl (by decide) rfl (fun ls hl => ?_)
  refine lv_iconst (v := 4) hx hb dL_ranks_5 (by decide) ?_
  refine l_newa (atype := .int) hC hR (t := 0) (N := 4) (E := .inl (fun _ => 0)) rfl qka_int rfl (fun cA => rfl) (by decide) (by decide) (by decide) (by show _ ≤ 344; omega) (by show _ ≤ 2078; omega) dL_ranks_6 (fun q_7 H hR hk => ?_)
  refine lv_astore_n (lv' := [(2, .ref q_7), (1, .ref q_5), (0, .ref (ad 228))]) hx hb dL_ranks_8 rfl hl (by decide) rfl (fun ls hl => ?_)
  refine lv_iconst (v := 4) hx hb dL_ranks_9 (by decide) ?_
  refine l_newa (atype := .int) hC hR (t := 0) (N := 4) (E := .inl (fun _ => 0)) rfl qka_int rfl (fun cA => rfl) (by decide) (by decide) (by decide) (by show _ ≤ 344; omega) (by show _ ≤ 2078; omega) dL_ranks_10 (fun q_8 H hR hk => ?_)
  refine lv_dup hx hb dL_ranks_12 rfl ?_
  refine lv_iconst (v := 0) hx hb dL_ranks_13 (by decide) ?_
  refine lv_iconst (v := (-1)) hx hb dL_ranks_14 (by decide) ?_
  refine l_ist hC hR 0 rfl (j := 0) (by decide) (by decide) dL_ranks_15 (fun H locs hR => ?_)
  obtain ⟨f_9, ef_9⟩ : ∃ y : Nat → Int32, y = upd (fun _ => 0) 0 (-1) := ⟨_, rfl⟩
  have hf := qnm_t hf ef_9
  have hR : lR D (lX (qcells G ad w0) [] []) (lX (qcells G ad w_4) [(q_8, .inl (G 0, 4, .inl f_9)), (q_7, .inl (G 0, 4, .inl (fun _ => 0)))] (lgr G q_5 u_6 n_2 M_3)) s H locs := by rw [ef_9]; exact hR
  refine lv_dup hx hb dL_ranks_16 rfl ?_
  refine lv_iconst (v := 1) hx hb dL_ranks_17 (by decide) ?_
  refine lv_iconst (v := (-1)) hx hb dL_ranks_18 (by decide) ?_
  refine l_ist hC hR 0 rfl (j := 1) (by decide) (by decide) dL_ranks_19 (fun H locs hR => ?_)
  obtain ⟨f_10, ef_10⟩ : ∃ y : Nat → Int32, y = upd f_9 1 (-1) := ⟨_, rfl⟩
  have hf := qnm_t hf ef_10
  have hR : lR D (lX (qcells G ad w0) [] []) (lX (qcells G ad w_4) [(q_8, .inl (G 0, 4, .inl f_10)), (q_7, .inl (G 0, 4, .inl (fun _ => 0)))] (lgr G q_5 u_6 n_2 M_3)) s H locs := by rw [ef_10]; exact hR
  refine lv_dup hx hb dL_ranks_20 rfl ?_
  refine lv_iconst (v := 2) hx hb dL_ranks_21 (by decide) ?_
  refine lv_iconst (v := (-1)) hx hb dL_ranks_22 (by decide) ?_
  refine l_ist hC hR 0 rfl (j := 2) (by decide) (by decide) dL_ranks_23 (fun H locs hR => ?_)
  obtain ⟨f_11, ef_11⟩ : ∃ y : Nat → Int32, y = upd f_10 2 (-1) := ⟨_, rfl⟩
  have hf := qnm_t hf ef_11
  have hR : lR D (lX (qcells G ad w0) [] []) (lX (qcells G ad w_4) [(q_8, .inl (G 0, 4, .inl f_11)), (q_7, .inl (G 0, 4, .inl (fun _ => 0)))] (lgr G q_5 u_6 n_2 M_3)) s H locs := by rw [ef_11]; exact hR
  refine lv_dup hx hb dL_ranks_24 rfl ?_
  refine lv_iconst (v := 3) hx hb dL_ranks_25 (by decide) ?_
  refine lv_iconst (v := (-1)) hx hb dL_ranks_26 (by decide) ?_
  refine l_ist hC hR 0 rfl (j := 3) (by decide) (by decide) dL_ranks_27 (fun H locs hR => ?_)
  obtain ⟨f_12, ef_12⟩ : ∃ y : Nat → Int32, y = upd f_11 3 (-1) := ⟨_, rfl⟩
  have hf := qnm_t hf ef_12
  have hR : lR D (lX (qcells G ad w0) [] []) (lX (qcells G ad w_4) [(q_8, .inl (G 0, 4, .inl f_12)), (q_7, .inl (G 0, 4, .inl (fun _ => 0)))] (lgr G q_5 u_6 n_2 M_3)) s H locs := by rw [ef_12]; exact hR
  refine lv_astore_n (lv' := [(3, .ref q_8), (2, .ref q_7), (1, .ref q_5), (0, .ref (ad 228))]) hx hb dL_ranks_28 rfl hl (by decide) rfl (fun ls hl => ?_)
  refine lv_iconst (v := 0) hx hb dL_ranks_29 (by decide) ?_
  refine lv_istore (lv' := [(4, .int 0), (3, .ref q_8), (2, .ref q_7), (1, .ref q_5), (0, .ref (ad 228))]) hx hb dL_ranks_30 hl (by decide) rfl (fun ls hl => ?_)
  have hR := lR_pick hR [1, 0] (ex1 := [(q_7, .inl (G 0, 4, .inl (fun _ => 0))), (q_8, .inl (G 0, 4, .inl f_12))]) (g1 := (lgr G q_5 u_6 n_2 M_3)) (by decide) rfl (Or.inl rfl)
  exact mL_ranks_L32 hst hC hr 13 _ _ _ _ _ _ _ _ _ _ _ _ _ _ _ hf hR (lv_sub hl [4, 3, 2, 1, 0] rfl) (by omega) (by omega)
