theorem dL_law_0 : decode cL_law 0 = .ok (.aload_n 0, 1) := by decide +kernel
theorem dL_law_1 : decode cL_law 1 = .ok (.invokestatic 179, 3) := by decide +kernel
theorem dL_law_4 : decode cL_law 4 = .ok (.astore_n 1, 1) := by decide +kernel
theorem dL_law_5 : decode cL_law 5 = .ok (.aload_n 1, 1) := by decide +kernel
theorem dL_law_6 : decode cL_law 6 = .ok (.ifnull 36, 3) := by decide +kernel
theorem dL_law_9 : decode cL_law 9 = .ok (.aload_n 1, 1) := by decide +kernel
theorem dL_law_10 : decode cL_law 10 = .ok (.invokestatic 183, 3) := by decide +kernel
theorem dL_law_13 : decode cL_law 13 = .ok (.ifCond .eq 29, 3) := by decide +kernel
theorem dL_law_16 : decode cL_law 16 = .ok (.aload_n 1, 1) := by decide +kernel
theorem dL_law_17 : decode cL_law 17 = .ok (.invokestatic 187, 3) := by decide +kernel
theorem dL_law_20 : decode cL_law 20 = .ok (.ifCond .eq 22, 3) := by decide +kernel
theorem dL_law_23 : decode cL_law 23 = .ok (.aload_n 1, 1) := by decide +kernel
theorem dL_law_24 : decode cL_law 24 = .ok (.invokestatic 190, 3) := by decide +kernel
theorem dL_law_27 : decode cL_law 27 = .ok (.ifCond .eq 15, 3) := by decide +kernel
theorem dL_law_30 : decode cL_law 30 = .ok (.aload_n 0, 1) := by decide +kernel
theorem dL_law_31 : decode cL_law 31 = .ok (.aload_n 1, 1) := by decide +kernel
theorem dL_law_32 : decode cL_law 32 = .ok (.invokestatic 193, 3) := by decide +kernel
theorem dL_law_35 : decode cL_law 35 = .ok (.ifCond .eq 7, 3) := by decide +kernel
theorem dL_law_38 : decode cL_law 38 = .ok (.iconst 1, 1) := by decide +kernel
theorem dL_law_39 : decode cL_law 39 = .ok (.goto 4, 3) := by decide +kernel
theorem dL_law_42 : decode cL_law 42 = .ok (.iconst 0, 1) := by decide +kernel
theorem dL_law_43 : decode cL_law 43 = .ok (.ireturn, 1) := by decide +kernel
/-- what the pure functions say of a script -/
def lw_pure (L : Nat) (xs : Nat → Int32) : Prop := ∃ w1 w2 w3 w4 w5 : qMem, fL_drawn L xs = some w1 ∧ fL_shaken w1 = some (1, w2) ∧ fL_ranks w2 = some (1, w3) ∧ fL_lines w3 = some (1, w4) ∧ fL_undone w4 L xs = some (1, w5)
set_option maxHeartbeats 4000000 in
set_option maxRecDepth 100000 in
theorem law_start {p : Program} {e : Env} {s : State} {m : MethodId} {below : List Frame} {meth : Method} {c : Code} (l : Launch) (hflags : l.flags = flags0) {b L : Nat} {xs : Nat → Int32} (hp : lw_pure L xs) (C0 : lw_At p s m meth c b L xs) : W p l e room_1 s m #[Value.ref b] below meth c s.heap [] 0 0 (lw_Z below #[Value.ref b] s) (entryFrame m ([Value.ref b] : List Value).toArray 2) := by
  obtain ⟨hx, hb, hr, hml, hown, htsA, hX, hbl, hlocks, hgv⟩ := id C0
  obtain ⟨w1, w2, w3, w4, w5, f1, f2, f3, f4, f5⟩ := hp
  have hts : ∀ w ∈ lw_gd, w.before #[Value.ref b] s = true := fun w hw => htsA w (List.mem_filter.mp hw).1
  have hst := q_flags hflags
  obtain ⟨D, G, hK⟩ := q_tables htsA
  have hwc : qwc D G s := q_wc htsA hK
  obtain ⟨sk, sv, hX0⟩ := q_X0 htsA hgv hwc
  obtain ⟨o1, o2, hdg⟩ := q_dg htsA hgv
  have hb : c.code = cL_law := hb
  have hown : s.vm.findClass RL = some m.cls := hown
  have hl := lv_entry ([.ref b]) (n := 2) (Nat.le_of_ble_eq_true rfl)
  rw [lg_entry_eq]
  generalize (lg_sl ([.ref b]) ++ List.replicate (2 - (lg_sl ([.ref b])).length) Slot.unset).toArray = ls at hl ⊢
  have hl : lv_has ls 2 [(0, .ref b)] := hl
  generalize had0 : (fun k : Nat => if k < 1000 then s.heap.size + k else if k < 2000 then sk (k - 1000) else sv (k - 2000)) = ad0
  have e0 : ∀ k : Nat, k < 238 → ad0 k = s.heap.size + k := fun k hk => by rw [← had0]; exact if_pos (by omega)
  have e1 : ∀ i : Nat, i < 45 → ad0 (1000 + i) = sk i := fun i hi => by
    rw [← had0]
    show (if 1000 + i < 1000 then _ else if 1000 + i < 2000 then sk (1000 + i - 1000) else _) = _
    rw [if_neg (by omega), if_pos (by omega), show 1000 + i - 1000 = i by omega]
  have e2 : ∀ i : Nat, i < 20 → ad0 (2000 + i) = sv i := fun i hi => by
    rw [← had0]
    show (if 2000 + i < 1000 then _ else if 2000 + i < 2000 then _ else sv (2000 + i - 2000)) = _
    rw [if_neg (by omega), if_neg (by omega), show 2000 + i - 2000 = i by omega]
  have hJ0 : qInj ad0 := fun i j hi hj e => by rw [e0 i hi, e0 j hj] at e; omega
  have hA0 : ∀ q, lA ad0 (lX [] [] []) s.heap.size q → s.heap.size ≤ q := fun q hq => by
    rcases hq with hq | hq
    · rcases va_A_iff.mp hq with ⟨z, hz, -⟩ | h
      · exact absurd hz (by simp [lX])
      · exact h
    · rcases hq with ⟨k, hk, rfl⟩ | hq
      · rw [e0 k hk]; omega
      · exact hq
  have hC : lCx p c cL_law 2 s m #[Value.ref b] meth RL D G ad0 (lX [] [] []) := ⟨hx, hb, hml, hown, hts, hlocks, hK, hJ0, hX0 ad0 _ hA0 e1 e2, q_ncs htsA hgv⟩
  have hR : lR D (lX [] [] []) (lX [] [] []) s s.heap [] := ⟨fun k q h => by simp [lX] at h, ⟨fun i j p q h => by simp [lX] at h, fun k q h => by simp [lX] at h⟩, va_S.rf⟩
  have hSc : ∀ A : Nat → Prop, (∀ q, A q → s.heap.size ≤ q) → lSc b L xs A s s.heap := fun A hA => ⟨hX, hbl, fun h => absurd hbl (Nat.not_lt.mpr (hA b h))⟩
  refine lv_aload_n hx hb dL_law_0 rfl (lv_at hl 0 rfl) ?_
  refine l_callSo hC hR (mL_drawn hJ0 hst f1) lSO_k ⟨hSc _ hA0, hwc.2.2.1, hwc.2.2.2⟩ qkl_47 qkl_48 qkl_18 qkl_49 qhd_L_drawn ⟨Nat.le_of_ble_eq_true rfl, Nat.le_of_ble_eq_true rfl⟩ hl.1 rfl (Nat.le_of_ble_eq_true rfl) dL_law_1 ⟨Nat.le_of_ble_eq_true rfl, Nat.le_of_ble_eq_true rfl⟩ (fun ad H locs _ hC hA1 hR => ?_)
  have hJ := hC.2.2.2.2.2.2.2.1
  have hA2 : ∀ q, lA ad (lX [] [] []) s.heap.size q → s.heap.size ≤ q := fun q h => hA0 q (hA1 q h)
  refine lv_astore_n (lv' := [(1, .ref (ad 228)), (0, .ref b)]) hx hb dL_law_4 rfl hl (by decide) rfl (fun ls hl => ?_)
  refine lv_aload_n hx hb dL_law_5 rfl (lv_at hl 0 rfl) ?_
  refine lv_ifnull hx hb dL_law_6 ?_
  refine lv_aload_n hx hb dL_law_9 rfl (lv_at hl 0 rfl) ?_
  refine l_callSi hC hR (mL_shaken hJ hst f2) lNo_k trivial lp_CR lp_CR.symm qkl_639 qkl_640 qkl_18 qkl_641 qhd_L_shaken ⟨Nat.le_of_ble_eq_true rfl, Nat.le_of_ble_eq_true rfl⟩ hl.1 rfl (Nat.le_of_ble_eq_true rfl) dL_law_10 ⟨Nat.le_of_ble_eq_true rfl, Nat.le_of_ble_eq_true rfl⟩ (fun H locs hR hk => ?_)
  refine lv_if_eq (tgt := 42) hx hb dL_law_13 (by decide) (fun c_ => absurd c_ (by decide)) (fun _ => ?_)
  refine lv_aload_n hx hb dL_law_16 rfl (lv_at hl 0 rfl) ?_
  refine l_callSi hC hR (mL_ranks hJ hst f3) lNo_k trivial lp_CR lp_CR.symm qkl_779 qkl_780 qkl_18 qkl_781 qhd_L_ranks ⟨Nat.le_of_ble_eq_true rfl, Nat.le_of_ble_eq_true rfl⟩ hl.1 rfl (Nat.le_of_ble_eq_true rfl) dL_law_17 ⟨Nat.le_of_ble_eq_true rfl, Nat.le_of_ble_eq_true rfl⟩ (fun H locs hR hk => ?_)
  refine lv_if_eq (tgt := 42) hx hb dL_law_20 (by decide) (fun c_ => absurd c_ (by decide)) (fun _ => ?_)
  refine lv_aload_n hx hb dL_law_23 rfl (lv_at hl 0 rfl) ?_
  refine l_callSi hC hR (mL_lines hJ hst f4) lDg_k (l_now lDg_k hR (hdg _ hA2)) lp_CR lp_CR.symm qkl_867 qkl_868 qkl_18 qkl_869 qhd_L_lines ⟨Nat.le_of_ble_eq_true rfl, Nat.le_of_ble_eq_true rfl⟩ hl.1 rfl (Nat.le_of_ble_eq_true rfl) dL_law_24 ⟨Nat.le_of_ble_eq_true rfl, Nat.le_of_ble_eq_true rfl⟩ (fun H locs hR hk => ?_)
  refine lv_if_eq (tgt := 42) hx hb dL_law_27 (by decide) (fun c_ => absurd c_ (by decide)) (fun _ => ?_)
  refine lv_aload_n hx hb dL_law_30 rfl (lv_at hl 1 rfl) ?_
  refine lv_aload_n hx hb dL_law_31 rfl (lv_at hl 0 rfl) ?_
  refine l_callSi hC hR (mL_undone hJ hst f5) lSD_k (l_now lSD_k hR ⟨hSc _ hA2, hdg _ hA2⟩) lp_CR lp_CR.symm qkl_1194 qkl_1195 qkl_18 qkl_1196 qhd_L_undone ⟨Nat.le_of_ble_eq_true rfl, Nat.le_of_ble_eq_true rfl⟩ hl.1 rfl (Nat.le_of_ble_eq_true rfl) dL_law_32 ⟨Nat.le_of_ble_eq_true rfl, Nat.le_of_ble_eq_true rfl⟩ (fun H locs hR hk => ?_)
  refine lv_if_eq (tgt := 42) hx hb dL_law_35 (by decide) (fun c_ => absurd c_ (by decide)) (fun _ => ?_)
  refine lv_iconst (v := 1) hx hb dL_law_38 (by decide) ?_
  refine lv_goto (tgt := 43) hx hb dL_law_39 (by decide) ?_
  refine va_forget (fun q hq => (va_A_iff.mp (hR.2.2.2.2 q hq)).elim (fun ⟨z, hz, _⟩ => absurd hz (by simp [lX])) (fun h => h)) ?_
  refine W.widen (k := 790366) (n := 6719190) (Nat.le_of_ble_eq_true rfl) (Nat.le_of_ble_eq_true rfl) ?_
  exact lw_ret (p := p) (l := l) (e := e) (s := s) (m := m) (below := below) (meth := meth) (c := c) (b := b) (d0 := s.drawn) (pc := 43) (H := H) (ls := ls) (Drawn.sameBut.refl s.drawn lw_cs) hx hb hr hlocks dL_law_43
