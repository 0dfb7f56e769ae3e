theorem qre {D : va_G} {A0 : Nat → Prop} {ws ws' : va_W} {H : Heap} (hP : va_P D vwCl ws H) (hD : va_D A0 ws) (ix : Nat → Nat) (h : ∀ (k q : Nat) (y : va_E), ws'[k]? = some (q, y) → ∃ x : va_E, ws[ix k]? = some (q, x) ∧ qle x y) (hi : ∀ j k : Nat, j < ws'.length → k < ws'.length → ix j = ix k → j = k) : va_P D vwCl ws' H ∧ va_D A0 ws' := by
  refine ⟨fun k q hk => ?_, fun i j p q hp hq e => ?_, fun k q hk => ?_⟩
  · obtain ⟨x, h1, h2⟩ := h k q.1 q.2 hk
    exact h2 D _ H (hP _ _ h1)
  · obtain ⟨x, h1, -⟩ := h i p.1 p.2 hp
    obtain ⟨y, h2, -⟩ := h j q.1 q.2 hq
    exact hi i j (List.getElem?_eq_some_iff.mp hp).1 (List.getElem?_eq_some_iff.mp hq).1 (hD.1 _ _ _ _ h1 h2 e)
  · obtain ⟨x, h1, -⟩ := h k q.1 q.2 hk
    have h3 := hD.2 _ _ h1
    exact h3
theorem qcan_succ {i q : Nat} {pa : Nat → Nat} {x : va_E} : qcan (i + 1) (fun j => if j = i then q else pa j) (fun _ => x) = qcan i pa (fun _ => x) ++ [(q, x)] := by
  unfold qcan
  rw [List.range_succ, List.map_append]
  congr 1
  · apply List.map_congr_left
    intro k hk
    have := List.mem_range.mp hk
    show (if k = i then q else pa k, x) = (pa k, x)
    rw [if_neg (by omega)]
  · simp
def qha (h0 q1 q2 q4 q5 q6 q7 : Nat) (pa : Nat → Nat) (k : Nat) : Nat := if k = 0 then h0 else if k = 1 then q1 else if k ≤ 13 then pa (k - 2) else if k = 14 then q2 else if k = 15 then q4 else if k = 16 then q5 else if k = 17 then q6 else q7
def qhx (k : Nat) : Nat := if k = 0 then 0 else if k = 1 then 1 else if k ≤ 13 then k + 5 else k - 12
theorem qhx_inj : ∀ j, j < 19 → ∀ k, k < 19 → qhx j = qhx k → j = k := by decide +kernel
abbrev qhl (G : Nat → ClassId) (h0 q1 q2 q4 q5 q6 q7 : Nat) (f : Nat → Option Nat) : va_W := [(h0, .inr (3, [.ref q1, .ref q2, .int 0, .ref q4, .int 0, .int 1, .int 0, .int 0, .int 0, .int 0, .ref q5, .ref q6, .ref q7])), (q1, .inl (G 3, 12, .inr (.inr (.inr (.inr f))))), (q2, .inr (6, z7)), (q4, .inl (G 0, 8, .inl (fun _ => 0))), (q5, .inl (G 1, 5, .inl (fun _ => 0))), (q6, .inl (G 0, 5, .inl (fun _ => 0))), (q7, .inl (G 1, 5, .inl (fun _ => 0)))]
theorem qhall_of {D : va_G} {G : Nat → ClassId} {A0 : Nat → Prop} {h0 q1 q2 q4 q5 q6 q7 : Nat} {f : Nat → Option Nat} {pa : Nat → Nat} {H : Heap} (hf : ∀ j : Nat, j < 12 → f j = some (pa j)) (hP : va_P D vwCl (qhl G h0 q1 q2 q4 q5 q6 q7 f ++ qcan 12 pa (fun _ => .inr (6, z7))) H) (hD : va_D A0 (qhl G h0 q1 q2 q4 q5 q6 q7 f ++ qcan 12 pa (fun _ => .inr (6, z7)))) : va_P D vwCl (qhw G (qha h0 q1 q2 q4 q5 q6 q7 pa)) H ∧ va_D A0 (qhw G (qha h0 q1 q2 q4 q5 q6 q7 pa)) := by
  refine qcan_of hP hD qhx (fun k hk => ?_) (fun j k hj hk e => qhx_inj j hj k hk e)
  rcases Nat.lt_or_ge k 2 with h | h
  · rcases Nat.lt_or_ge k 1 with h1 | h1
    · have : k = 0 := by omega
      subst this
      refine ⟨_, rfl, qle_eq ?_⟩
      rw [show qshp G (qha h0 q1 q2 q4 q5 q6 q7 pa) (qwz 0) 0 = _ from qsh_hall G _ _ (h := 0) (by decide)]
      rfl
    · have : k = 1 := by omega
      subst this
      refine ⟨_, rfl, ?_⟩
      rw [show qshp G (qha h0 q1 q2 q4 q5 q6 q7 pa) (qwz 1) 1 = _ from qsh_props G _ _ (h := 0) (by decide)]
      refine qle_q (fun j hj => ?_)
      rw [hf j hj]
      unfold qha
      rw [if_neg (by omega), if_neg (by omega), if_pos (by omega)]
      congr 2
      omega
  · rcases Nat.lt_or_ge k 14 with h1 | h1
    · refine ⟨.inr (6, z7), ?_, ?_⟩
      · rw [show qhx k = 7 + (k - 2) by unfold qhx; rw [if_neg (by omega), if_neg (by omega), if_pos (by omega)]; omega]
        rw [List.getElem?_append_right (by show 7 ≤ _; omega)]
        show (qcan 12 pa (fun _ => .inr (6, z7)))[7 + (k - 2) - 7]? = _
        rw [show 7 + (k - 2) - 7 = k - 2 by omega, qcan_at (by omega)]
        unfold qha
        rw [if_neg (by omega), if_neg (by omega), if_pos (by omega)]
      · rw [qsh_prop G _ _ (c := k) ⟨by omega, by omega, by omega⟩]
        have e : ∀ j : Nat, qwz k j = 0 := fun j => by unfold qwz; rw [if_neg (by omega)]
        simp only [e]
        exact qle_rf
    · have hh : k = 14 ∨ k = 15 ∨ k = 16 ∨ k = 17 ∨ k = 18 := by omega
      rcases hh with rfl | rfl | rfl | rfl | rfl
      · refine ⟨_, rfl, qle_eq ?_⟩
        rw [qsh_prop G _ _ (c := 14) ⟨by omega, by omega, by omega⟩]
        rfl
      · refine ⟨_, rfl, ?_⟩
        rw [show qshp G (qha h0 q1 q2 q4 q5 q6 q7 pa) (qwz 15) 15 = _ from qsh_planned G _ _ (h := 0) (by decide)]
        exact qle_i (fun j _ => rfl)
      · refine ⟨_, rfl, ?_⟩
        rw [show qshp G (qha h0 q1 q2 q4 q5 q6 q7 pa) (qwz 16) 16 = _ from qsh_hasCat G _ _ (h := 0) (by decide)]
        exact qle_i (fun j _ => rfl)
      · refine ⟨_, rfl, ?_⟩
        rw [show qshp G (qha h0 q1 q2 q4 q5 q6 q7 pa) (qwz 17) 17 = _ from qsh_reach G _ _ (h := 0) (by decide)]
        exact qle_i (fun j _ => rfl)
      · refine ⟨_, rfl, ?_⟩
        rw [show qshp G (qha h0 q1 q2 q4 q5 q6 q7 pa) (qwz 18) 18 = _ from qsh_hasBr G _ _ (h := 0) (by decide)]
        exact qle_i (fun j _ => rfl)
def qPW0 (G : Nat → ClassId) (h0 : Nat) (W : va_W) : Prop := ∃ a : Nat → Nat, a 0 = h0 ∧ W = qhw G a
set_option maxHeartbeats 4000000 in
set_option maxRecDepth 100000 in
theorem mX0_init_L90 {p : Program} {l : Launch} {e : Env} {s : State} {m : MethodId} {args : Array Value} {below : List Frame} {meth : Method} {c0 : Code} {D : va_G} {G : Nat → ClassId} {h0 q1 q2 q4 q5 q6 q7 : Nat} (hC : qCi p c0 cX0_init 2 s m args meth RX0 D G) (hr : meth.sig.returnType = none) : ∀ (n i : Nat) (pa : Nat → Nat) (f : Nat → Option Nat) (H : Heap) (locs : List Loc) (ls : Array Slot), i + n = 12 → (∀ j : Nat, j < i → f j = some (pa j)) → va_P D vwCl (qhl G h0 q1 q2 q4 q5 q6 q7 f ++ qcan i pa (fun _ => .inr (6, z7))) H → va_D (qone h0 s.heap.size) (qhl G h0 q1 q2 q4 q5 q6 q7 f ++ qcan i pa (fun _ => .inr (6, z7))) → va_S (qone h0 s.heap.size) s.heap H locs → lv_has ls 2 [(1, .int (nI i)), (0, .ref h0)] → W p l e (qrm 3 18 126) s m args below meth c0 H locs (6 + i) (42 + 7 * i) (MQ below (va_Qv (S := Unit) (fun _ => True) (fun _ t => ∃ W : va_W, qPW0 G h0 W ∧ va_P D vwCl W t.heap ∧ va_D (qone h0 s.heap.size) W) (qone h0 s.heap.size)) args s 18 126 (qone h0 s.heap.size)) (F0 m 90 ls []) := by
  have hx := hC.1
  have hb := hC.2.1
  have hown := hC.2.2.2.1
  have hts := hC.2.2.2.2.1
  have hK := hC.2.2.2.2.2.2.1.1
  have hA : ∀ q : Nat, s.heap.size ≤ q → qone h0 s.heap.size q := fun q h => Or.inr h
  intro n
  induction n with
  | zero =>
    intro i pa f H locs ls hi hf hP hD hS hl
    have : i = 12 := by omega
    subst this
    refine lv_iload_n hx hb dX0_init_90 rfl (lv_at hl 0 rfl) ?_
    refine lv_bipush (v := 12) hx hb dX0_init_91 (by decide) ?_
    refine lv_icmp_ge (tgt := 115) hx hb dX0_init_93 (by decide) (fun _ => ?_) (fun c_1 => absurd (by decide) c_1)
    obtain ⟨hP, hD⟩ := qhall_of hf hP hD
    exact q_cret hC hr ⟨_, rfl, rfl⟩ hP hD hS (Nat.le_of_ble_eq_true rfl) (Nat.le_of_ble_eq_true rfl) dX0_init_115
  | succ n ih =>
    intro i pa f H locs ls hi hf hP hD hS hl
    refine lv_iload_n hx hb dX0_init_90 rfl (lv_at hl 0 rfl) ?_
    refine lv_bipush (v := 12) hx hb dX0_init_91 (by decide) ?_
    refine lv_icmp_ge (tgt := 115) hx hb dX0_init_93 (by decide) (fun c_1 => absurd c_1 (nI_ge (b := 12) (by omega) (by decide))) (fun _ => ?_)
    refine lv_aload_n hx hb dX0_init_96 rfl (lv_at hl 1 rfl) ?_
    refine va_get (D := D) (ci := 3) (v := .ref q1) (C := RX0) (T := TX0) (N := 13) hx hb hts qin_X0 hown hK hP 0 rfl rfl 0 (by decide) (hts _ qkn_111) (fun _ h9 => h9) rfl dX0_init_97 ?_
    refine lv_iload_n hx hb dX0_init_100 rfl (lv_at hl 0 rfl) ?_
    refine va_new (D := D) (ci := 6) (C := RX3) (T := TX3) (N := 7) (fs := z7) hx hb hts qin_X3 tyX3 tyX3_ok hown (hts _ qkn_64) (hts _ qkn_66) (hts _ qkn_21) hK hP hD hS hA rfl (fun j hj => by match j, hj with | 0, _ => rfl | 1, _ => rfl | 2, _ => rfl | 3, _ => rfl | 4, _ => rfl | 5, _ => rfl | 6, _ => rfl) (by show _ ≤ 18; omega) (by show _ ≤ 126; omega) dX0_init_101 (fun q H hP hD hS => ?_)
    refine lv_dup hx hb dX0_init_104 rfl ?_
    refine q_mkIN (rest := [.ref q, .int (nI i), .ref q1]) hx hb hC.2.2.1 hown hts hC.2.2.2.2.2.2.1 (mX3_init (l := l) (D := D) (G := G) (h0 := q)) hP hD hS hA qkn_67 qkn_68 qkn_21 qkn_69 rfl qhd_X3_init ⟨Nat.le_of_ble_eq_true rfl, Nat.le_of_ble_eq_true rfl⟩ hl.1 (Nat.le_of_ble_eq_true rfl) dX0_init_105 ⟨by show _ ≤ 18; omega, by show _ ≤ 126; omega⟩ (fun W1 H locs hW1 hP hD hS => ?_)
    subst hW1
    refine va_astq hx hb hK hP hD hS 1 3 (qhl G h0 q1 q2 q4 q5 q6 q7 f ++ qcan i pa (fun _ => .inr (6, z7))).length 6 rfl rfl qend rfl (vp_in_nI (by omega) (by decide)) dX0_init_108 (fun H locs hP hD hS => ?_)
    rw [nI_clamp (by omega)] at hP hD
    have hP : va_P D vwCl (qhl G h0 q1 q2 q4 q5 q6 q7 (va_up f i (some q)) ++ qcan i pa (fun _ => .inr (6, z7)) ++ [(q, .inr (6, z7))]) H := hP
    have hD : va_D (qone h0 s.heap.size) (qhl G h0 q1 q2 q4 q5 q6 q7 (va_up f i (some q)) ++ qcan i pa (fun _ => .inr (6, z7)) ++ [(q, .inr (6, z7))]) := hD
    rw [List.append_assoc, ← qcan_succ] at hP hD
    refine lv_iinc (v := nI (i + 1)) (lv' := [(1, .int (nI (i + 1))), (0, .ref h0)]) hx hb dX0_init_109 hl (k := 0) rfl (nI_1 i) (by decide) rfl (fun ls hl => ?_)
    refine lv_goto (tgt := 90) hx hb dX0_init_112 (by decide) ?_
    refine W.widen (k := 6 + (i + 1)) (n := 42 + 7 * (i + 1)) (by omega) (by omega) ?_
    refine ih (i + 1) _ _ H locs ls (by omega) (fun j hj => ?_) hP hD hS hl
    by_cases hji : j = i
    · subst hji; simp [va_up]
    · simp only [va_up, if_neg hji]; exact hf j (by omega)
set_option maxHeartbeats 4000000 in
set_option maxRecDepth 100000 in
theorem mX0_init {l : Launch} {D : va_G} {G : Nat → ClassId} {h0 : Nat} : qMk l D G yX0_init cX0_init 2 3 18 126 h0 3 [.null, .null, .int 0, .null, .int 0, .int 0, .int 0, .int 0, .int 0, .int 0, .null, .null, .null] (qPW0 G h0) := by
  refine q_startC RX0 rfl (by decide +kernel) rfl (Nat.le_of_ble_eq_true rfl) ?_
  intro p e s m args below meth c0 ls hC hr hP hl
  have hx := hC.1
  have hb := hC.2.1
  have hown := hC.2.2.2.1
  have hts := hC.2.2.2.2.1
  have hK := hC.2.2.2.2.2.2.1.1
  have hA : ∀ q : Nat, s.heap.size ≤ q → qone h0 s.heap.size q := fun q h => Or.inr h
  have hS : va_S (qone h0 s.heap.size) s.heap s.heap [] := va_S.rf
  have hD : va_D (qone h0 s.heap.size) [(h0, .inr (3, [.null, .null, .int 0, .null, .int 0, .int 0, .int 0, .int 0, .int 0, .int 0, .null, .null, .null]))] := qone_D1
  have hl : lv_has ls 2 [(0, .ref h0)] := hl
  refine lv_aload_n hx hb dX0_init_0 rfl (lv_at hl 0 rfl) ?_
  refine W.objInit hx hb hown (hts _ qkn_63) (hts _ qjs_oi) (hts _ qjs_oc) rfl (by rw [hC.2.2.1]; exact hl.1) rfl dX0_init_1 (Nat.le_of_ble_eq_true rfl) (Nat.le_of_ble_eq_true rfl) ?_
  refine lv_aload_n hx hb dX0_init_4 rfl (lv_at hl 0 rfl) ?_
  refine lv_bipush (v := 12) hx hb dX0_init_5 (by decide) ?_
  refine va_newq (C := RX3) (N' := 12) hx hb hown (hts _ qkn_64) hC.2.2.2.2.2.2.1.2.2.1 hK hP hD hS hA (by decide) (by decide) (Nat.le_of_ble_eq_true rfl) (Nat.le_of_ble_eq_true rfl) (Nat.le_of_ble_eq_true rfl) dX0_init_7 (fun q1 cA H hK2 hP hD hS => ?_)
  obtain rfl := qsame_arr hK2 (t := 3) rfl
  have hP : va_P D vwCl ([(h0, .inr (3, [.null, .null, .int 0, .null, .int 0, .int 0, .int 0, .int 0, .int 0, .int 0, .null, .null, .null]))] ++ [(q1, .inl (G 3, 12, .inr (.inr (.inr (.inr (fun _ => none))))))]) H := hP
  have hD : va_D (qone h0 s.heap.size) ([(h0, .inr (3, [.null, .null, .int 0, .null, .int 0, .int 0, .int 0, .int 0, .int 0, .int 0, .null, .null, .null]))] ++ [(q1, .inl (G 3, 12, .inr (.inr (.inr (.inr (fun _ => none))))))]) := hD
  refine va_putF (D := D) (ci := 3) (v := .ref q1) (ty := .array (.object RX3)) (C := RX0) (T := TX0) (N := 13) hx hb hts qin_X0 tyX0 tyX0_ok nmX0 hown hK hP hD hS 0 rfl rfl 0 (by decide) (hts _ qkn_111) (fun _ h9 => h9) rfl hC.2.2.2.2.2.2.2 rfl (by decide +kernel) rfl rfl (Nat.le_of_ble_eq_true rfl) dX0_init_10 (fun H locs hP hD hS => ?_)
  have hP : va_P D vwCl ([(h0, .inr (3, [.ref q1, .null, .int 0, .null, .int 0, .int 0, .int 0, .int 0, .int 0, .int 0, .null, .null, .null]))] ++ [(q1, .inl (G 3, 12, .inr (.inr (.inr (.inr (fun _ => none))))))]) H := hP
  have hD : va_D (qone h0 s.heap.size) ([(h0, .inr (3, [.ref q1, .null, .int 0, .null, .int 0, .int 0, .int 0, .int 0, .int 0, .int 0, .null, .null, .null]))] ++ [(q1, .inl (G 3, 12, .inr (.inr (.inr (.inr (fun _ => none))))))]) := hD
  refine lv_aload_n hx hb dX0_init_13 rfl (lv_at hl 0 rfl) ?_
  refine va_new (D := D) (ci := 6) (C := RX3) (T := TX3) (N := 7) (fs := [.int 0, .int 0, .int 0, .int 0, .int 0, .int 0, .int 0]) hx hb hts qin_X3 tyX3 tyX3_ok hown (hts _ qkn_64) (hts _ qkn_66) (hts _ qkn_21) hK hP hD hS hA rfl (fun j hj => by match j, hj with | 0, _ => rfl | 1, _ => rfl | 2, _ => rfl | 3, _ => rfl | 4, _ => rfl | 5, _ => rfl | 6, _ => rfl) (Nat.le_of_ble_eq_true rfl) (Nat.le_of_ble_eq_true rfl) dX0_init_14 (fun q2 H hP hD hS => ?_)
  refine lv_dup hx hb dX0_init_17 rfl ?_
  refine q_mkIN (rest := [.ref q2, .ref h0]) hx hb hC.2.2.1 hown hts hC.2.2.2.2.2.2.1 (mX3_init (l := l) (D := D) (G := G) (h0 := q2)) hP hD hS hA qkn_67 qkn_68 qkn_21 qkn_69 rfl qhd_X3_init ⟨Nat.le_of_ble_eq_true rfl, Nat.le_of_ble_eq_true rfl⟩ hl.1 (Nat.le_of_ble_eq_true rfl) dX0_init_18 ⟨Nat.le_of_ble_eq_true rfl, Nat.le_of_ble_eq_true rfl⟩ (fun W3 H locs hW3 hP hD hS => ?_)
  subst hW3
  have hP : va_P D vwCl ([(h0, .inr (3, [.ref q1, .null, .int 0, .null, .int 0, .int 0, .int 0, .int 0, .int 0, .int 0, .null, .null, .null]))] ++ [(q1, .inl (G 3, 12, .inr (.inr (.inr (.inr (fun _ => none))))))] ++ [(q2, .inr (6, z7))]) H := hP
  have hD : va_D (qone h0 s.heap.size) ([(h0, .inr (3, [.ref q1, .null, .int 0, .null, .int 0, .int 0, .int 0, .int 0, .int 0, .int 0, .null, .null, .null]))] ++ [(q1, .inl (G 3, 12, .inr (.inr (.inr (.inr (fun _ => none))))))] ++ [(q2, .inr (6, z7))]) := hD
  refine va_putF (D := D) (ci := 3) (v := .ref q2) (ty := .object RX3) (C := RX0) (T := TX0) (N := 13) hx hb hts qin_X0 tyX0 tyX0_ok nmX0 hown hK hP hD hS 0 rfl rfl 1 (by decide) (hts _ qkn_112) (fun _ h9 => h9) rfl hC.2.2.2.2.2.2.2 rfl (by decide +kernel) rfl rfl (Nat.le_of_ble_eq_true rfl) dX0_init_21 (fun H locs hP hD hS => ?_)
  have hP : va_P D vwCl ([(h0, .inr (3, [.ref q1, .ref q2, .int 0, .null, .int 0, .int 0, .int 0, .int 0, .int 0, .int 0, .null, .null, .null]))] ++ [(q1, .inl (G 3, 12, .inr (.inr (.inr (.inr (fun _ => none))))))] ++ [(q2, .inr (6, z7))]) H := hP
  have hD : va_D (qone h0 s.heap.size) ([(h0, .inr (3, [.ref q1, .ref q2, .int 0, .null, .int 0, .int 0, .int 0, .int 0, .int 0, .int 0, .null, .null, .null]))] ++ [(q1, .inl (G 3, 12, .inr (.inr (.inr (.inr (fun _ => none))))))] ++ [(q2, .inr (6, z7))]) := hD
  refine lv_aload_n hx hb dX0_init_24 rfl (lv_at hl 0 rfl) ?_
  refine lv_iconst (v := 0) hx hb dX0_init_25 (by decide) ?_
  refine va_put (D := D) (ci := 3) (v := .int 0) (ty := .int) (C := RX0) (T := TX0) (N := 13) hx hb hts qin_X0 tyX0 tyX0_ok nmX0 hown hK hP hD hS 0 rfl rfl 2 (by decide) (hts _ qkn_113) (fun _ h9 => h9) rfl (by decide +kernel) rfl rfl (Nat.le_of_ble_eq_true rfl) dX0_init_26 (fun H locs hP hD hS => ?_)
  have hP : va_P D vwCl ([(h0, .inr (3, [.ref q1, .ref q2, .int 0, .null, .int 0, .int 0, .int 0, .int 0, .int 0, .int 0, .null, .null, .null]))] ++ [(q1, .inl (G 3, 12, .inr (.inr (.inr (.inr (fun _ => none))))))] ++ [(q2, .inr (6, z7))]) H := hP
  have hD : va_D (qone h0 s.heap.size) ([(h0, .inr (3, [.ref q1, .ref q2, .int 0, .null, .int 0, .int 0, .int 0, .int 0, .int 0, .int 0, .null, .null, .null]))] ++ [(q1, .inl (G 3, 12, .inr (.inr (.inr (.inr (fun _ => none))))))] ++ [(q2, .inr (6, z7))]) := hD
  refine lv_aload_n hx hb dX0_init_29 rfl (lv_at hl 0 rfl) ?_
  refine lv_bipush (v := 8) hx hb dX0_init_30 (by decide) ?_
  refine va_newa (atype := .int) (ty := .int) (N' := 8) (a0 := (8, .inl (fun _ => 0))) hx hb (hts _ qja_int) rfl hK hP hD hS hA (fun _ => rfl) (by decide) (by decide) (Nat.le_of_ble_eq_true rfl) (Nat.le_of_ble_eq_true rfl) (Nat.le_of_ble_eq_true rfl) dX0_init_32 (fun q4 cA H hK2 hP hD hS => ?_)
  obtain rfl := qsame_arr hK2 (t := 0) rfl
  have hP : va_P D vwCl ([(h0, .inr (3, [.ref q1, .ref q2, .int 0, .null, .int 0, .int 0, .int 0, .int 0, .int 0, .int 0, .null, .null, .null]))] ++ [(q1, .inl (G 3, 12, .inr (.inr (.inr (.inr (fun _ => none))))))] ++ [(q2, .inr (6, z7))] ++ [(q4, .inl (G 0, 8, .inl (fun _ => 0)))]) H := hP
  have hD : va_D (qone h0 s.heap.size) ([(h0, .inr (3, [.ref q1, .ref q2, .int 0, .null, .int 0, .int 0, .int 0, .int 0, .int 0, .int 0, .null, .null, .null]))] ++ [(q1, .inl (G 3, 12, .inr (.inr (.inr (.inr (fun _ => none))))))] ++ [(q2, .inr (6, z7))] ++ [(q4, .inl (G 0, 8, .inl (fun _ => 0)))]) := hD
  refine va_putF (D := D) (ci := 3) (v := .ref q4) (ty := .array .int) (C := RX0) (T := TX0) (N := 13) hx hb hts qin_X0 tyX0 tyX0_ok nmX0 hown hK hP hD hS 0 rfl rfl 3 (by decide) (hts _ qkn_115) (fun _ h9 => h9) rfl hC.2.2.2.2.2.2.2 rfl (by decide +kernel) rfl rfl (Nat.le_of_ble_eq_true rfl) dX0_init_34 (fun H locs hP hD hS => ?_)
  have hP : va_P D vwCl ([(h0, .inr (3, [.ref q1, .ref q2, .int 0, .ref q4, .int 0, .int 0, .int 0, .int 0, .int 0, .int 0, .null, .null, .null]))] ++ [(q1, .inl (G 3, 12, .inr (.inr (.inr (.inr (fun _ => none))))))] ++ [(q2, .inr (6, z7))] ++ [(q4, .inl (G 0, 8, .inl (fun _ => 0)))]) H := hP
  have hD : va_D (qone h0 s.heap.size) ([(h0, .inr (3, [.ref q1, .ref q2, .int 0, .ref q4, .int 0, .int 0, .int 0, .int 0, .int 0, .int 0, .null, .null, .null]))] ++ [(q1, .inl (G 3, 12, .inr (.inr (.inr (.inr (fun _ => none))))))] ++ [(q2, .inr (6, z7))] ++ [(q4, .inl (G 0, 8, .inl (fun _ => 0)))]) := hD
  refine lv_aload_n hx hb dX0_init_37 rfl (lv_at hl 0 rfl) ?_
  refine lv_iconst (v := 0) hx hb dX0_init_38 (by decide) ?_
  refine va_put (D := D) (ci := 3) (v := .int 0) (ty := .int) (C := RX0) (T := TX0) (N := 13) hx hb hts qin_X0 tyX0 tyX0_ok nmX0 hown hK hP hD hS 0 rfl rfl 4 (by decide) (hts _ qkn_116) (fun _ h9 => h9) rfl (by decide +kernel) rfl rfl (Nat.le_of_ble_eq_true rfl) dX0_init_39 (fun H locs hP hD hS => ?_)
  have hP : va_P D vwCl ([(h0, .inr (3, [.ref q1, .ref q2, .int 0, .ref q4, .int 0, .int 0, .int 0, .int 0, .int 0, .int 0, .null, .null, .null]))] ++ [(q1, .inl (G 3, 12, .inr (.inr (.inr (.inr (fun _ => none))))))] ++ [(q2, .inr (6, z7))] ++ [(q4, .inl (G 0, 8, .inl (fun _ => 0)))]) H := hP
  have hD : va_D (qone h0 s.heap.size) ([(h0, .inr (3, [.ref q1, .ref q2, .int 0, .ref q4, .int 0, .int 0, .int 0, .int 0, .int 0, .int 0, .null, .null, .null]))] ++ [(q1, .inl (G 3, 12, .inr (.inr (.inr (.inr (fun _ => none))))))] ++ [(q2, .inr (6, z7))] ++ [(q4, .inl (G 0, 8, .inl (fun _ => 0)))]) := hD
  refine lv_aload_n hx hb dX0_init_42 rfl (lv_at hl 0 rfl) ?_
  refine lv_iconst (v := 1) hx hb dX0_init_43 (by decide) ?_
  refine va_put (D := D) (ci := 3) (v := .int 1) (ty := .int) (C := RX0) (T := TX0) (N := 13) hx hb hts qin_X0 tyX0 tyX0_ok nmX0 hown hK hP hD hS 0 rfl rfl 5 (by decide) (hts _ qkn_119) (fun _ h9 => h9) rfl (by decide +kernel) rfl rfl (Nat.le_of_ble_eq_true rfl) dX0_init_44 (fun H locs hP hD hS => ?_)
  have hP : va_P D vwCl ([(h0, .inr (3, [.ref q1, .ref q2, .int 0, .ref q4, .int 0, .int 1, .int 0, .int 0, .int 0, .int 0, .null, .null, .null]))] ++ [(q1, .inl (G 3, 12, .inr (.inr (.inr (.inr (fun _ => none))))))] ++ [(q2, .inr (6, z7))] ++ [(q4, .inl (G 0, 8, .inl (fun _ => 0)))]) H := hP
  have hD : va_D (qone h0 s.heap.size) ([(h0, .inr (3, [.ref q1, .ref q2, .int 0, .ref q4, .int 0, .int 1, .int 0, .int 0, .int 0, .int 0, .null, .null, .null]))] ++ [(q1, .inl (G 3, 12, .inr (.inr (.inr (.inr (fun _ => none))))))] ++ [(q2, .inr (6, z7))] ++ [(q4, .inl (G 0, 8, .inl (fun _ => 0)))]) := hD
  refine lv_aload_n hx hb dX0_init_47 rfl (lv_at hl 0 rfl) ?_
  refine lv_iconst (v := 0) hx hb dX0_init_48 (by decide) ?_
  refine va_put (D := D) (ci := 3) (v := .int 0) (ty := .int) (C := RX0) (T := TX0) (N := 13) hx hb hts qin_X0 tyX0 tyX0_ok nmX0 hown hK hP hD hS 0 rfl rfl 6 (by decide) (hts _ qkn_121) (fun _ h9 => h9) rfl (by decide +kernel) rfl rfl (Nat.le_of_ble_eq_true rfl) dX0_init_49 (fun H locs hP hD hS => ?_)
  have hP : va_P D vwCl ([(h0, .inr (3, [.ref q1, .ref q2, .int 0, .ref q4, .int 0, .int 1, .int 0, .int 0, .int 0, .int 0, .null, .null, .null]))] ++ [(q1, .inl (G 3, 12, .inr (.inr (.inr (.inr (fun _ => none))))))] ++ [(q2, .inr (6, z7))] ++ [(q4, .inl (G 0, 8, .inl (fun _ => 0)))]) H := hP
  have hD : va_D (qone h0 s.heap.size) ([(h0, .inr (3, [.ref q1, .ref q2, .int 0, .ref q4, .int 0, .int 1, .int 0, .int 0, .int 0, .int 0, .null, .null, .null]))] ++ [(q1, .inl (G 3, 12, .inr (.inr (.inr (.inr (fun _ => none))))))] ++ [(q2, .inr (6, z7))] ++ [(q4, .inl (G 0, 8, .inl (fun _ => 0)))]) := hD
  refine lv_aload_n hx hb dX0_init_52 rfl (lv_at hl 0 rfl) ?_
  refine lv_iconst (v := 0) hx hb dX0_init_53 (by decide) ?_
  refine va_put (D := D) (ci := 3) (v := .int 0) (ty := .int) (C := RX0) (T := TX0) (N := 13) hx hb hts qin_X0 tyX0 tyX0_ok nmX0 hown hK hP hD hS 0 rfl rfl 7 (by decide) (hts _ qkn_123) (fun _ h9 => h9) rfl (by decide +kernel) rfl rfl (Nat.le_of_ble_eq_true rfl) dX0_init_54 (fun H locs hP hD hS => ?_)
  have hP : va_P D vwCl ([(h0, .inr (3, [.ref q1, .ref q2, .int 0, .ref q4, .int 0, .int 1, .int 0, .int 0, .int 0, .int 0, .null, .null, .null]))] ++ [(q1, .inl (G 3, 12, .inr (.inr (.inr (.inr (fun _ => none))))))] ++ [(q2, .inr (6, z7))] ++ [(q4, .inl (G 0, 8, .inl (fun _ => 0)))]) H := hP
  have hD : va_D (qone h0 s.heap.size) ([(h0, .inr (3, [.ref q1, .ref q2, .int 0, .ref q4, .int 0, .int 1, .int 0, .int 0, .int 0, .int 0, .null, .null, .null]))] ++ [(q1, .inl (G 3, 12, .inr (.inr (.inr (.inr (fun _ => none))))))] ++ [(q2, .inr (6, z7))] ++ [(q4, .inl (G 0, 8, .inl (fun _ => 0)))]) := hD
  refine lv_aload_n hx hb dX0_init_57 rfl (lv_at hl 0 rfl) ?_
  refine lv_iconst (v := 0) hx hb dX0_init_58 (by decide) ?_
  refine va_put (D := D) (ci := 3) (v := .int 0) (ty := .int) (C := RX0) (T := TX0) (N := 13) hx hb hts qin_X0 tyX0 tyX0_ok nmX0 hown hK hP hD hS 0 rfl rfl 8 (by decide) (hts _ qkn_125) (fun _ h9 => h9) rfl (by decide +kernel) rfl rfl (Nat.le_of_ble_eq_true rfl) dX0_init_59 (fun H locs hP hD hS => ?_)
  have hP : va_P D vwCl ([(h0, .inr (3, [.ref q1, .ref q2, .int 0, .ref q4, .int 0, .int 1, .int 0, .int 0, .int 0, .int 0, .null, .null, .null]))] ++ [(q1, .inl (G 3, 12, .inr (.inr (.inr (.inr (fun _ => none))))))] ++ [(q2, .inr (6, z7))] ++ [(q4, .inl (G 0, 8, .inl (fun _ => 0)))]) H := hP
  have hD : va_D (qone h0 s.heap.size) ([(h0, .inr (3, [.ref q1, .ref q2, .int 0, .ref q4, .int 0, .int 1, .int 0, .int 0, .int 0, .int 0, .null, .null, .null]))] ++ [(q1, .inl (G 3, 12, .inr (.inr (.inr (.inr (fun _ => none))))))] ++ [(q2, .inr (6, z7))] ++ [(q4, .inl (G 0, 8, .inl (fun _ => 0)))]) := hD
  refine lv_aload_n hx hb dX0_init_62 rfl (lv_at hl 0 rfl) ?_
  refine lv_iconst (v := 0) hx hb dX0_init_63 (by decide) ?_
  refine va_put (D := D) (ci := 3) (v := .int 0) (ty := .int) (C := RX0) (T := TX0) (N := 13) hx hb hts qin_X0 tyX0 tyX0_ok nmX0 hown hK hP hD hS 0 rfl rfl 9 (by decide) (hts _ qkn_127) (fun _ h9 => h9) rfl (by decide +kernel) rfl rfl (Nat.le_of_ble_eq_true rfl) dX0_init_64 (fun H locs hP hD hS => ?_)
  have hP : va_P D vwCl ([(h0, .inr (3, [.ref q1, .ref q2, .int 0, .ref q4, .int 0, .int 1, .int 0, .int 0, .int 0, .int 0, .null, .null, .null]))] ++ [(q1, .inl (G 3, 12, .inr (.inr (.inr (.inr (fun _ => none))))))] ++ [(q2, .inr (6, z7))] ++ [(q4, .inl (G 0, 8, .inl (fun _ => 0)))]) H := hP
  have hD : va_D (qone h0 s.heap.size) ([(h0, .inr (3, [.ref q1, .ref q2, .int 0, .ref q4, .int 0, .int 1, .int 0, .int 0, .int 0, .int 0, .null, .null, .null]))] ++ [(q1, .inl (G 3, 12, .inr (.inr (.inr (.inr (fun _ => none))))))] ++ [(q2, .inr (6, z7))] ++ [(q4, .inl (G 0, 8, .inl (fun _ => 0)))]) := hD
  refine lv_aload_n hx hb dX0_init_67 rfl (lv_at hl 0 rfl) ?_
  refine lv_iconst (v := 5) hx hb dX0_init_68 (by decide) ?_
  refine va_newa (atype := .boolean) (ty := .boolean) (N' := 5) (a0 := (5, .inl (fun _ => 0))) hx hb (hts _ qja_boolean) rfl hK hP hD hS hA (fun _ => rfl) (by decide) (by decide) (Nat.le_of_ble_eq_true rfl) (Nat.le_of_ble_eq_true rfl) (Nat.le_of_ble_eq_true rfl) dX0_init_69 (fun q5 cA H hK2 hP hD hS => ?_)
  obtain rfl := qsame_arr hK2 (t := 1) rfl
  have hP : va_P D vwCl ([(h0, .inr (3, [.ref q1, .ref q2, .int 0, .ref q4, .int 0, .int 1, .int 0, .int 0, .int 0, .int 0, .null, .null, .null]))] ++ [(q1, .inl (G 3, 12, .inr (.inr (.inr (.inr (fun _ => none))))))] ++ [(q2, .inr (6, z7))] ++ [(q4, .inl (G 0, 8, .inl (fun _ => 0)))] ++ [(q5, .inl (G 1, 5, .inl (fun _ => 0)))]) H := hP
  have hD : va_D (qone h0 s.heap.size) ([(h0, .inr (3, [.ref q1, .ref q2, .int 0, .ref q4, .int 0, .int 1, .int 0, .int 0, .int 0, .int 0, .null, .null, .null]))] ++ [(q1, .inl (G 3, 12, .inr (.inr (.inr (.inr (fun _ => none))))))] ++ [(q2, .inr (6, z7))] ++ [(q4, .inl (G 0, 8, .inl (fun _ => 0)))] ++ [(q5, .inl (G 1, 5, .inl (fun _ => 0)))]) := hD
  refine va_putF (D := D) (ci := 3) (v := .ref q5) (ty := .array .boolean) (C := RX0) (T := TX0) (N := 13) hx hb hts qin_X0 tyX0 tyX0_ok nmX0 hown hK hP hD hS 0 rfl rfl 10 (by decide) (hts _ qkn_129) (fun _ h9 => h9) rfl hC.2.2.2.2.2.2.2 rfl (by decide +kernel) rfl rfl (Nat.le_of_ble_eq_true rfl) dX0_init_71 (fun H locs hP hD hS => ?_)
  have hP : va_P D vwCl ([(h0, .inr (3, [.ref q1, .ref q2, .int 0, .ref q4, .int 0, .int 1, .int 0, .int 0, .int 0, .int 0, .ref q5, .null, .null]))] ++ [(q1, .inl (G 3, 12, .inr (.inr (.inr (.inr (fun _ => none))))))] ++ [(q2, .inr (6, z7))] ++ [(q4, .inl (G 0, 8, .inl (fun _ => 0)))] ++ [(q5, .inl (G 1, 5, .inl (fun _ => 0)))]) H := hP
  have hD : va_D (qone h0 s.heap.size) ([(h0, .inr (3, [.ref q1, .ref q2, .int 0, .ref q4, .int 0, .int 1, .int 0, .int 0, .int 0, .int 0, .ref q5, .null, .null]))] ++ [(q1, .inl (G 3, 12, .inr (.inr (.inr (.inr (fun _ => none))))))] ++ [(q2, .inr (6, z7))] ++ [(q4, .inl (G 0, 8, .inl (fun _ => 0)))] ++ [(q5, .inl (G 1, 5, .inl (fun _ => 0)))]) := hD
  refine lv_aload_n hx hb dX0_init_74 rfl (lv_at hl 0 rfl) ?_
  refine lv_iconst (v := 5) hx hb dX0_init_75 (by decide) ?_
  refine va_newa (atype := .int) (ty := .int) (N' := 5) (a0 := (5, .inl (fun _ => 0))) hx hb (hts _ qja_int) rfl hK hP hD hS hA (fun _ => rfl) (by decide) (by decide) (Nat.le_of_ble_eq_true rfl) (Nat.le_of_ble_eq_true rfl) (Nat.le_of_ble_eq_true rfl) dX0_init_76 (fun q6 cA H hK2 hP hD hS => ?_)
  obtain rfl := qsame_arr hK2 (t := 0) rfl
  have hP : va_P D vwCl ([(h0, .inr (3, [.ref q1, .ref q2, .int 0, .ref q4, .int 0, .int 1, .int 0, .int 0, .int 0, .int 0, .ref q5, .null, .null]))] ++ [(q1, .inl (G 3, 12, .inr (.inr (.inr (.inr (fun _ => none))))))] ++ [(q2, .inr (6, z7))] ++ [(q4, .inl (G 0, 8, .inl (fun _ => 0)))] ++ [(q5, .inl (G 1, 5, .inl (fun _ => 0)))] ++ [(q6, .inl (G 0, 5, .inl (fun _ => 0)))]) H := hP
  have hD : va_D (qone h0 s.heap.size) ([(h0, .inr (3, [.ref q1, .ref q2, .int 0, .ref q4, .int 0, .int 1, .int 0, .int 0, .int 0, .int 0, .ref q5, .null, .null]))] ++ [(q1, .inl (G 3, 12, .inr (.inr (.inr (.inr (fun _ => none))))))] ++ [(q2, .inr (6, z7))] ++ [(q4, .inl (G 0, 8, .inl (fun _ => 0)))] ++ [(q5, .inl (G 1, 5, .inl (fun _ => 0)))] ++ [(q6, .inl (G 0, 5, .inl (fun _ => 0)))]) := hD
  refine va_putF (D := D) (ci := 3) (v := .ref q6) (ty := .array .int) (C := RX0) (T := TX0) (N := 13) hx hb hts qin_X0 tyX0 tyX0_ok nmX0 hown hK hP hD hS 0 rfl rfl 11 (by decide) (hts _ qkn_130) (fun _ h9 => h9) rfl hC.2.2.2.2.2.2.2 rfl (by decide +kernel) rfl rfl (Nat.le_of_ble_eq_true rfl) dX0_init_78 (fun H locs hP hD hS => ?_)
  have hP : va_P D vwCl ([(h0, .inr (3, [.ref q1, .ref q2, .int 0, .ref q4, .int 0, .int 1, .int 0, .int 0, .int 0, .int 0, .ref q5, .ref q6, .null]))] ++ [(q1, .inl (G 3, 12, .inr (.inr (.inr (.inr (fun _ => none))))))] ++ [(q2, .inr (6, z7))] ++ [(q4, .inl (G 0, 8, .inl (fun _ => 0)))] ++ [(q5, .inl (G 1, 5, .inl (fun _ => 0)))] ++ [(q6, .inl (G 0, 5, .inl (fun _ => 0)))]) H := hP
  have hD : va_D (qone h0 s.heap.size) ([(h0, .inr (3, [.ref q1, .ref q2, .int 0, .ref q4, .int 0, .int 1, .int 0, .int 0, .int 0, .int 0, .ref q5, .ref q6, .null]))] ++ [(q1, .inl (G 3, 12, .inr (.inr (.inr (.inr (fun _ => none))))))] ++ [(q2, .inr (6, z7))] ++ [(q4, .inl (G 0, 8, .inl (fun _ => 0)))] ++ [(q5, .inl (G 1, 5, .inl (fun _ => 0)))] ++ [(q6, .inl (G 0, 5, .inl (fun _ => 0)))]) := hD
  refine lv_aload_n hx hb dX0_init_81 rfl (lv_at hl 0 rfl) ?_
  refine lv_iconst (v := 5) hx hb dX0_init_82 (by decide) ?_
  refine va_newa (atype := .boolean) (ty := .boolean) (N' := 5) (a0 := (5, .inl (fun _ => 0))) hx hb (hts _ qja_boolean) rfl hK hP hD hS hA (fun _ => rfl) (by decide) (by decide) (Nat.le_of_ble_eq_true rfl) (Nat.le_of_ble_eq_true rfl) (Nat.le_of_ble_eq_true rfl) dX0_init_83 (fun q7 cA H hK2 hP hD hS => ?_)
  obtain rfl := qsame_arr hK2 (t := 1) rfl
  have hP : va_P D vwCl ([(h0, .inr (3, [.ref q1, .ref q2, .int 0, .ref q4, .int 0, .int 1, .int 0, .int 0, .int 0, .int 0, .ref q5, .ref q6, .null]))] ++ [(q1, .inl (G 3, 12, .inr (.inr (.inr (.inr (fun _ => none))))))] ++ [(q2, .inr (6, z7))] ++ [(q4, .inl (G 0, 8, .inl (fun _ => 0)))] ++ [(q5, .inl (G 1, 5, .inl (fun _ => 0)))] ++ [(q6, .inl (G 0, 5, .inl (fun _ => 0)))] ++ [(q7, .inl (G 1, 5, .inl (fun _ => 0)))]) H := hP
  have hD : va_D (qone h0 s.heap.size) ([(h0, .inr (3, [.ref q1, .ref q2, .int 0, .ref q4, .int 0, .int 1, .int 0, .int 0, .int 0, .int 0, .ref q5, .ref q6, .null]))] ++ [(q1, .inl (G 3, 12, .inr (.inr (.inr (.inr (fun _ => none))))))] ++ [(q2, .inr (6, z7))] ++ [(q4, .inl (G 0, 8, .inl (fun _ => 0)))] ++ [(q5, .inl (G 1, 5, .inl (fun _ => 0)))] ++ [(q6, .inl (G 0, 5, .inl (fun _ => 0)))] ++ [(q7, .inl (G 1, 5, .inl (fun _ => 0)))]) := hD
  refine va_putF (D := D) (ci := 3) (v := .ref q7) (ty := .array .boolean) (C := RX0) (T := TX0) (N := 13) hx hb hts qin_X0 tyX0 tyX0_ok nmX0 hown hK hP hD hS 0 rfl rfl 12 (by decide) (hts _ qkn_131) (fun _ h9 => h9) rfl hC.2.2.2.2.2.2.2 rfl (by decide +kernel) rfl rfl (Nat.le_of_ble_eq_true rfl) dX0_init_85 (fun H locs hP hD hS => ?_)
  have hP : va_P D vwCl ([(h0, .inr (3, [.ref q1, .ref q2, .int 0, .ref q4, .int 0, .int 1, .int 0, .int 0, .int 0, .int 0, .ref q5, .ref q6, .ref q7]))] ++ [(q1, .inl (G 3, 12, .inr (.inr (.inr (.inr (fun _ => none))))))] ++ [(q2, .inr (6, z7))] ++ [(q4, .inl (G 0, 8, .inl (fun _ => 0)))] ++ [(q5, .inl (G 1, 5, .inl (fun _ => 0)))] ++ [(q6, .inl (G 0, 5, .inl (fun _ => 0)))] ++ [(q7, .inl (G 1, 5, .inl (fun _ => 0)))]) H := hP
  have hD : va_D (qone h0 s.heap.size) ([(h0, .inr (3, [.ref q1, .ref q2, .int 0, .ref q4, .int 0, .int 1, .int 0, .int 0, .int 0, .int 0, .ref q5, .ref q6, .ref q7]))] ++ [(q1, .inl (G 3, 12, .inr (.inr (.inr (.inr (fun _ => none))))))] ++ [(q2, .inr (6, z7))] ++ [(q4, .inl (G 0, 8, .inl (fun _ => 0)))] ++ [(q5, .inl (G 1, 5, .inl (fun _ => 0)))] ++ [(q6, .inl (G 0, 5, .inl (fun _ => 0)))] ++ [(q7, .inl (G 1, 5, .inl (fun _ => 0)))]) := hD
  refine lv_iconst (v := 0) hx hb dX0_init_88 (by decide) ?_
  refine lv_istore_n (lv' := [(1, .int 0), (0, .ref h0)]) hx hb dX0_init_89 rfl hl (by decide) rfl (fun ls hl => ?_)
  exact mX0_init_L90 (q1 := q1) (q2 := q2) (q4 := q4) (q5 := q5) (q6 := q6) (q7 := q7) hC hr 12 0 (fun _ => 0) (fun _ => none) H _ ls rfl (fun j hj => absurd hj (Nat.not_lt_zero j)) hP hD hS hl
def qhs (G : Nat → ClassId) (as : Nat → Nat) (k : Nat) : va_E := qshp G (fun r => as (19 * (k / 19) + r)) (qwz (k % 19)) (k % 19)
abbrev qwh (G : Nat → ClassId) (h0 q1 : Nat) (f : Nat → Option Nat) : va_W := [(h0, .inr (4, [.ref q1, .int 0, .int 0])), (q1, .inl (G 4, 9, .inr (.inr (.inr (.inr f)))))]
def qPW1 (G : Nat → ClassId) (h0 : Nat) (W : va_W) : Prop := ∃ (q1 : Nat) (f : Nat → Option Nat) (as : Nat → Nat), (∀ j : Nat, j < 9 → f j = some (as (19 * j))) ∧ W = qwh G h0 q1 f ++ qcan 171 as (qhs G as)
theorem qhist_step {D : va_G} {G : Nat → ClassId} {A0 : Nat → Prop} {h0 q1 i : Nat} {f : Nat → Option Nat} {as a : Nat → Nat} {H : Heap} (hP : va_P D vwCl (qwh G h0 q1 f ++ qcan (19 * i) as (qhs G as) ++ qhw G a) H) (hD : va_D A0 (qwh G h0 q1 f ++ qcan (19 * i) as (qhs G as) ++ qhw G a)) : va_P D vwCl (qwh G h0 q1 f ++ qcan (19 * (i + 1)) (fun k => if k < 19 * i then as k else a (k - 19 * i)) (qhs G (fun k => if k < 19 * i then as k else a (k - 19 * i)))) H ∧ va_D A0 (qwh G h0 q1 f ++ qcan (19 * (i + 1)) (fun k => if k < 19 * i then as k else a (k - 19 * i)) (qhs G (fun k => if k < 19 * i then as k else a (k - 19 * i)))) := by
  refine qre hP hD (fun k => k) (fun k q y hk => ?_) (fun j k _ _ e => e)
  rcases Nat.lt_or_ge k 2 with h | h
  · rw [List.getElem?_append_left (by show k < 2; exact h)] at hk
    refine ⟨y, ?_, qle_rf⟩
    rw [List.append_assoc, List.getElem?_append_left (by show k < 2; exact h)]
    exact hk
  · rw [List.getElem?_append_right (by show 2 ≤ k; exact h)] at hk
    have hk : (qcan (19 * (i + 1)) (fun k => if k < 19 * i then as k else a (k - 19 * i)) (qhs G (fun k => if k < 19 * i then as k else a (k - 19 * i))))[k - 2]? = some (q, y) := hk
    have hl : k - 2 < 19 * (i + 1) := by have := (List.getElem?_eq_some_iff.mp hk).1; rwa [qcan_len] at this
    rw [qcan_at hl] at hk
    cases hk
    rcases Nat.lt_or_ge (k - 2) (19 * i) with h2 | h2
    · refine ⟨qhs G as (k - 2), ?_, ?_⟩
      · rw [List.append_assoc, List.getElem?_append_right (by show 2 ≤ k; exact h)]
        show (qcan (19 * i) as (qhs G as) ++ qhw G a)[k - 2]? = _
        rw [List.getElem?_append_left (by rw [qcan_len]; exact h2), qcan_at h2]
        show some (as (k - 2), _) = some (if k - 2 < 19 * i then as (k - 2) else a (k - 2 - 19 * i), _)
        rw [if_pos h2]
      · refine qshp_le (Nat.mod_lt _ (by decide)) (fun r hr => ?_)
        show as _ = if _ then _ else _
        rw [if_pos (by omega)]
    · refine ⟨qshp G a (qwz (k - 2 - 19 * i)) (k - 2 - 19 * i), ?_, ?_⟩
      · rw [List.append_assoc, List.getElem?_append_right (by show 2 ≤ k; exact h)]
        show (qcan (19 * i) as (qhs G as) ++ qhw G a)[k - 2]? = _
        rw [List.getElem?_append_right (by rw [qcan_len]; exact h2), qcan_len]
        unfold qhw
        rw [qcan_at (by omega)]
        show some (a (k - 2 - 19 * i), _) = some (if k - 2 < 19 * i then as (k - 2) else a (k - 2 - 19 * i), _)
        rw [if_neg (by omega)]
      · unfold qhs
        have e1 : (k - 2) % 19 = k - 2 - 19 * i := by omega
        have e2 : (k - 2) / 19 = i := by omega
        rw [e1, e2]
        refine qshp_le (by omega) (fun r hr => ?_)
        show a r = if _ then _ else _
        rw [if_neg (by omega)]
        congr 1
        omega
set_option maxHeartbeats 4000000 in
set_option maxRecDepth 100000 in
theorem mX1_init_L25 {p : Program} {l : Launch} {e : Env} {s : State} {m : MethodId} {args : Array Value} {below : List Frame} {meth : Method} {c0 : Code} {D : va_G} {G : Nat → ClassId} {h0 q1 : Nat} (hC : qCi p c0 cX1_init 2 s m args meth RX1 D G) (hr : meth.sig.returnType = none) : ∀ (n i : Nat) (as : Nat → Nat) (f : Nat → Option Nat) (H : Heap) (locs : List Loc) (ls : Array Slot), i + n = 9 → (∀ j : Nat, j < i → f j = some (as (19 * j))) → va_P D vwCl (qwh G h0 q1 f ++ qcan (19 * i) as (qhs G as)) H → va_D (qone h0 s.heap.size) (qwh G h0 q1 f ++ qcan (19 * i) as (qhs G as)) → va_S (qone h0 s.heap.size) s.heap H locs → lv_has ls 2 [(1, .int (nI i)), (0, .ref h0)] → W p l e (qrm 4 172 1260) s m args below meth c0 H locs (1 + 19 * i) (9 + 139 * i) (MQ below (va_Qv (S := Unit) (fun _ => True) (fun _ t => ∃ W : va_W, qPW1 G h0 W ∧ va_P D vwCl W t.heap ∧ va_D (qone h0 s.heap.size) W) (qone h0 s.heap.size)) args s 172 1260 (qone h0 s.heap.size)) (F0 m 25 ls []) := by
  have hx := hC.1
  have hb := hC.2.1
  have hown := hC.2.2.2.1
  have hts := hC.2.2.2.2.1
  have hK := hC.2.2.2.2.2.2.1.1
  have hA : ∀ q : Nat, s.heap.size ≤ q → qone h0 s.heap.size q := fun q h => Or.inr h
  intro n
  induction n with
  | zero =>
    intro i as f H locs ls hi hf hP hD hS hl
    have : i = 9 := by omega
    subst this
    refine lv_iload_n hx hb dX1_init_25 rfl (lv_at hl 0 rfl) ?_
    refine lv_bipush (v := 9) hx hb dX1_init_26 (by decide) ?_
    refine lv_icmp_ge (tgt := 50) hx hb dX1_init_28 (by decide) (fun _ => ?_) (fun c_1 => absurd (by decide) c_1)
    exact q_cret hC hr ⟨q1, f, as, hf, rfl⟩ hP hD hS (Nat.le_of_ble_eq_true rfl) (Nat.le_of_ble_eq_true rfl) dX1_init_50
  | succ n ih =>
    intro i as f H locs ls hi hf hP hD hS hl
    refine lv_iload_n hx hb dX1_init_25 rfl (lv_at hl 0 rfl) ?_
    refine lv_bipush (v := 9) hx hb dX1_init_26 (by decide) ?_
    refine lv_icmp_ge (tgt := 50) hx hb dX1_init_28 (by decide) (fun c_1 => absurd c_1 (nI_ge (b := 9) (by omega) (by decide))) (fun _ => ?_)
    refine lv_aload_n hx hb dX1_init_31 rfl (lv_at hl 1 rfl) ?_
    refine va_get (D := D) (ci := 4) (v := .ref q1) (C := RX1) (T := TX1) (N := 3) hx hb hts qin_X1 hown hK hP 0 rfl rfl 0 (by decide) (hts _ qkn_170) (fun _ h9 => h9) rfl dX1_init_32 ?_
    refine lv_iload_n hx hb dX1_init_35 rfl (lv_at hl 0 rfl) ?_
    refine va_new (D := D) (ci := 3) (C := RX0) (T := TX0) (N := 13) (fs := [.null, .null, .int 0, .null, .int 0, .int 0, .int 0, .int 0, .int 0, .int 0, .null, .null, .null]) hx hb hts qin_X0 tyX0 tyX0_ok hown (hts _ qkn_167) (hts _ qkn_59) (hts _ qkn_20) hK hP hD hS hA rfl (fun j hj => by match j, hj with | 0, _ => rfl | 1, _ => rfl | 2, _ => rfl | 3, _ => rfl | 4, _ => rfl | 5, _ => rfl | 6, _ => rfl | 7, _ => rfl | 8, _ => rfl | 9, _ => rfl | 10, _ => rfl | 11, _ => rfl | 12, _ => rfl) (by show _ ≤ 172; omega) (by show _ ≤ 1260; omega) dX1_init_36 (fun q H hP hD hS => ?_)
    refine lv_dup hx hb dX1_init_39 rfl ?_
    refine q_mkI (rest := [.ref q, .int (nI i), .ref q1]) hx hb hC.2.2.1 hown hts hC.2.2.2.2.2.2.1 (mX0_init (l := l) (D := D) (G := G) (h0 := q)) hP hD hS hA qkn_169 qkn_61 qkn_20 qkn_62 rfl qhd_X0_init ⟨Nat.le_of_ble_eq_true rfl, Nat.le_of_ble_eq_true rfl⟩ hl.1 (Nat.le_of_ble_eq_true rfl) dX1_init_40 ⟨by show _ ≤ 172; omega, by show _ ≤ 1260; omega⟩ (fun W1 H locs hW1 hP5 hD5 hS5 => ?_)
    obtain ⟨a, ha, rfl⟩ := hW1
    clear hP hD hS
    subst ha
    have hP := hP5
    have hD := hD5
    have hS := hS5
    have hhd : (qwh G h0 q1 f ++ qcan (19 * i) as (qhs G as) ++ qhw G a)[(qwh G h0 q1 f ++ qcan (19 * i) as (qhs G as)).length]? = some (a 0, .inr (3, [.ref (a 1), .ref (a 14), .int (qwz 0 2), .ref (a 15), .int (qwz 0 4), .int (qwz 0 5), .int (qwz 0 6), .int (qwz 0 7), .int (qwz 0 8), .int (qwz 0 9), .ref (a 16), .ref (a 17), .ref (a 18)])) := by
      rw [List.getElem?_append_right (Nat.le_refl _), Nat.sub_self]
      rw [show (qhw G a)[0]? = some (a 0, qshp G a (qwz 0) 0) from qcan_at (by decide)]
      rw [show qshp G a (qwz 0) 0 = _ from qsh_hall G a (qwz 0) (h := 0) (by decide)]
    refine va_astq hx hb hK hP hD hS 1 4 (qwh G h0 q1 f ++ qcan (19 * i) as (qhs G as)).length 3 rfl rfl hhd rfl (vp_in_nI (by omega) (by decide)) dX1_init_43 (fun H locs hP hD hS => ?_)
    rw [nI_clamp (by omega)] at hP hD
    have hP : va_P D vwCl (qwh G h0 q1 (va_up f i (some (a 0))) ++ qcan (19 * i) as (qhs G as) ++ qhw G a) H := hP
    have hD : va_D (qone h0 s.heap.size) (qwh G h0 q1 (va_up f i (some (a 0))) ++ qcan (19 * i) as (qhs G as) ++ qhw G a) := hD
    obtain ⟨hP, hD⟩ := qhist_step hP hD
    refine lv_iinc (v := nI (i + 1)) (lv' := [(1, .int (nI (i + 1))), (0, .ref h0)]) hx hb dX1_init_44 hl (k := 0) rfl (nI_1 i) (by decide) rfl (fun ls hl => ?_)
    refine lv_goto (tgt := 25) hx hb dX1_init_47 (by decide) ?_
    refine W.widen (k := 1 + 19 * (i + 1)) (n := 9 + 139 * (i + 1)) (by omega) (by omega) ?_
    refine ih (i + 1) _ _ H locs ls (by omega) (fun j hj => ?_) hP hD hS hl
    by_cases hji : j = i
    · subst hji; simp [va_up]
    · simp only [va_up, if_neg hji]; rw [if_pos (by omega)]; exact hf j (by omega)
set_option maxHeartbeats 4000000 in
set_option maxRecDepth 100000 in
theorem mX1_init {l : Launch} {D : va_G} {G : Nat → ClassId} {h0 : Nat} : qMk l D G yX1_init cX1_init 2 4 172 1260 h0 4 [.null, .int 0, .int 0] (qPW1 G h0) := by
  refine q_startC RX1 rfl (by decide +kernel) rfl (Nat.le_of_ble_eq_true rfl) ?_
  intro p e s m args below meth c0 ls hC hr hP hl
  have hx := hC.1
  have hb := hC.2.1
  have hown := hC.2.2.2.1
  have hts := hC.2.2.2.2.1
  have hK := hC.2.2.2.2.2.2.1.1
  have hA : ∀ q : Nat, s.heap.size ≤ q → qone h0 s.heap.size q := fun q h => Or.inr h
  have hS : va_S (qone h0 s.heap.size) s.heap s.heap [] := va_S.rf
  have hD : va_D (qone h0 s.heap.size) [(h0, .inr (4, [.null, .int 0, .int 0]))] := qone_D1
  have hl : lv_has ls 2 [(0, .ref h0)] := hl
  refine lv_aload_n hx hb dX1_init_0 rfl (lv_at hl 0 rfl) ?_
  refine W.objInit hx hb hown (hts _ qkn_166) (hts _ qjs_oi) (hts _ qjs_oc) rfl (by rw [hC.2.2.1]; exact hl.1) rfl dX1_init_1 (Nat.le_of_ble_eq_true rfl) (Nat.le_of_ble_eq_true rfl) ?_
  refine lv_aload_n hx hb dX1_init_4 rfl (lv_at hl 0 rfl) ?_
  refine lv_bipush (v := 9) hx hb dX1_init_5 (by decide) ?_
  refine va_newq (C := RX0) (N' := 9) hx hb hown (hts _ qkn_167) hC.2.2.2.2.2.2.1.2.2.2 hK hP hD hS hA (by decide) (by decide) (Nat.le_of_ble_eq_true rfl) (Nat.le_of_ble_eq_true rfl) (Nat.le_of_ble_eq_true rfl) dX1_init_7 (fun q1 cA H hK2 hP hD hS => ?_)
  obtain rfl := qsame_arr hK2 (t := 4) rfl
  have hP : va_P D vwCl ([(h0, .inr (4, [.null, .int 0, .int 0]))] ++ [(q1, .inl (G 4, 9, .inr (.inr (.inr (.inr (fun _ => none))))))]) H := hP
  have hD : va_D (qone h0 s.heap.size) ([(h0, .inr (4, [.null, .int 0, .int 0]))] ++ [(q1, .inl (G 4, 9, .inr (.inr (.inr (.inr (fun _ => none))))))]) := hD
  refine va_putF (D := D) (ci := 4) (v := .ref q1) (ty := .array (.object RX0)) (C := RX1) (T := TX1) (N := 3) hx hb hts qin_X1 tyX1 tyX1_ok nmX1 hown hK hP hD hS 0 rfl rfl 0 (by decide) (hts _ qkn_170) (fun _ h9 => h9) rfl hC.2.2.2.2.2.2.2 rfl (by decide +kernel) rfl rfl (Nat.le_of_ble_eq_true rfl) dX1_init_10 (fun H locs hP hD hS => ?_)
  have hP : va_P D vwCl ([(h0, .inr (4, [.ref q1, .int 0, .int 0]))] ++ [(q1, .inl (G 4, 9, .inr (.inr (.inr (.inr (fun _ => none))))))]) H := hP
  have hD : va_D (qone h0 s.heap.size) ([(h0, .inr (4, [.ref q1, .int 0, .int 0]))] ++ [(q1, .inl (G 4, 9, .inr (.inr (.inr (.inr (fun _ => none))))))]) := hD
  refine lv_aload_n hx hb dX1_init_13 rfl (lv_at hl 0 rfl) ?_
  refine lv_iconst (v := 0) hx hb dX1_init_14 (by decide) ?_
  refine va_put (D := D) (ci := 4) (v := .int 0) (ty := .int) (C := RX1) (T := TX1) (N := 3) hx hb hts qin_X1 tyX1 tyX1_ok nmX1 hown hK hP hD hS 0 rfl rfl 1 (by decide) (hts _ qkn_171) (fun _ h9 => h9) rfl (by decide +kernel) rfl rfl (Nat.le_of_ble_eq_true rfl) dX1_init_15 (fun H locs hP hD hS => ?_)
  have hP : va_P D vwCl ([(h0, .inr (4, [.ref q1, .int 0, .int 0]))] ++ [(q1, .inl (G 4, 9, .inr (.inr (.inr (.inr (fun _ => none))))))]) H := hP
  have hD : va_D (qone h0 s.heap.size) ([(h0, .inr (4, [.ref q1, .int 0, .int 0]))] ++ [(q1, .inl (G 4, 9, .inr (.inr (.inr (.inr (fun _ => none))))))]) := hD
  refine lv_aload_n hx hb dX1_init_18 rfl (lv_at hl 0 rfl) ?_
  refine lv_iconst (v := 0) hx hb dX1_init_19 (by decide) ?_
  refine va_put (D := D) (ci := 4) (v := .int 0) (ty := .int) (C := RX1) (T := TX1) (N := 3) hx hb hts qin_X1 tyX1 tyX1_ok nmX1 hown hK hP hD hS 0 rfl rfl 2 (by decide) (hts _ qkn_172) (fun _ h9 => h9) rfl (by decide +kernel) rfl rfl (Nat.le_of_ble_eq_true rfl) dX1_init_20 (fun H locs hP hD hS => ?_)
  have hP : va_P D vwCl ([(h0, .inr (4, [.ref q1, .int 0, .int 0]))] ++ [(q1, .inl (G 4, 9, .inr (.inr (.inr (.inr (fun _ => none))))))]) H := hP
  have hD : va_D (qone h0 s.heap.size) ([(h0, .inr (4, [.ref q1, .int 0, .int 0]))] ++ [(q1, .inl (G 4, 9, .inr (.inr (.inr (.inr (fun _ => none))))))]) := hD
  refine lv_iconst (v := 0) hx hb dX1_init_23 (by decide) ?_
  refine lv_istore_n (lv' := [(1, .int 0), (0, .ref h0)]) hx hb dX1_init_24 rfl hl (by decide) rfl (fun ls hl => ?_)
  exact mX1_init_L25 (q1 := q1) hC hr 9 0 (fun _ => 0) (fun _ => none) H _ ls rfl (fun j hj => absurd hj (Nat.not_lt_zero j)) hP hD hS hl
def qPW5 (G : Nat → ClassId) (h0 : Nat) (W : va_W) : Prop := ∃ (q1 : Nat) (W2 : va_W), ∃ (q3 : Nat) (W4 : va_W), ∃ (q5 : Nat) (W6 : va_W), ∃ (q7 : Nat) (W8 : va_W), ∃ (q9 : Nat) (W10 : va_W), ∃ (q11 : Nat) (W12 : va_W), qPW0 G q1 W2 ∧ qPW0 G q3 W4 ∧ qPW0 G q5 W6 ∧ qPW1 G q7 W8 ∧ qPW4 G q9 W10 ∧ qPW2 G q11 W12 ∧ W = [(h0, .inr (8, [.ref q1, .ref q3, .ref q5, .ref q7, .ref q9, .ref q11, .int 0, .int (-1), .int 0, .int 0, .int 0]))] ++ W2 ++ W4 ++ W6 ++ W8 ++ W10 ++ W12
set_option maxHeartbeats 4000000 in
set_option maxRecDepth 100000 in
theorem mX5_init {l : Launch} {D : va_G} {G : Nat → ClassId} {h0 : Nat} : qMk l D G yX5_init cX5_init 1 5 237 1801 h0 8 [.null, .null, .null, .null, .null, .null, .int 0, .int 0, .int 0, .int 0, .int 0] (qPW5 G h0) := by
  refine q_startC RX5 rfl (by decide +kernel) rfl (Nat.le_of_ble_eq_true rfl) ?_
  intro p e s m args below meth c0 ls hC hr hP hl
  have hx := hC.1
  have hb := hC.2.1
  have hown := hC.2.2.2.1
  have hts := hC.2.2.2.2.1
  have hK := hC.2.2.2.2.2.2.1.1
  have hA : ∀ q : Nat, s.heap.size ≤ q → qone h0 s.heap.size q := fun q h => Or.inr h
  have hS : va_S (qone h0 s.heap.size) s.heap s.heap [] := va_S.rf
  have hD : va_D (qone h0 s.heap.size) [(h0, .inr (8, [.null, .null, .null, .null, .null, .null, .int 0, .int 0, .int 0, .int 0, .int 0]))] := qone_D1
  have hl : lv_has ls 1 [(0, .ref h0)] := hl
  refine lv_aload_n hx hb dX5_init_0 rfl (lv_at hl 0 rfl) ?_
  refine W.objInit hx hb hown (hts _ qkn_55) (hts _ qjs_oi) (hts _ qjs_oc) rfl (by rw [hC.2.2.1]; exact hl.1) rfl dX5_init_1 (Nat.le_of_ble_eq_true rfl) (Nat.le_of_ble_eq_true rfl) ?_
  refine lv_aload_n hx hb dX5_init_4 rfl (lv_at hl 0 rfl) ?_
  refine va_new (D := D) (ci := 3) (C := RX0) (T := TX0) (N := 13) (fs := [.null, .null, .int 0, .null, .int 0, .int 0, .int 0, .int 0, .int 0, .int 0, .null, .null, .null]) hx hb hts qin_X0 tyX0 tyX0_ok hown (hts _ qkn_58) (hts _ qkn_59) (hts _ qkn_20) hK hP hD hS hA rfl (fun j hj => by match j, hj with | 0, _ => rfl | 1, _ => rfl | 2, _ => rfl | 3, _ => rfl | 4, _ => rfl | 5, _ => rfl | 6, _ => rfl | 7, _ => rfl | 8, _ => rfl | 9, _ => rfl | 10, _ => rfl | 11, _ => rfl | 12, _ => rfl) (Nat.le_of_ble_eq_true rfl) (Nat.le_of_ble_eq_true rfl) dX5_init_5 (fun q1 H hP hD hS => ?_)
  refine lv_dup hx hb dX5_init_8 rfl ?_
  refine q_mkI (rest := [.ref q1, .ref h0]) hx hb hC.2.2.1 hown hts hC.2.2.2.2.2.2.1 (mX0_init (l := l) (D := D) (G := G) (h0 := q1)) hP hD hS hA qkn_60 qkn_61 qkn_20 qkn_62 rfl qhd_X0_init ⟨Nat.le_of_ble_eq_true rfl, Nat.le_of_ble_eq_true rfl⟩ hl.1 (Nat.le_of_ble_eq_true rfl) dX5_init_9 ⟨Nat.le_of_ble_eq_true rfl, Nat.le_of_ble_eq_true rfl⟩ (fun W2 H locs hW2 hP hD hS => ?_)
  refine va_putF (D := D) (ci := 8) (v := .ref q1) (ty := .object RX0) (C := RX5) (T := TX5) (N := 11) hx hb hts qin_X5 tyX5 tyX5_ok nmX5 hown hK hP hD hS 0 rfl rfl 0 (by decide) (hts _ qkn_226) (fun _ h9 => h9) rfl hC.2.2.2.2.2.2.2 rfl (by decide +kernel) rfl rfl (Nat.le_of_ble_eq_true rfl) dX5_init_12 (fun H locs hP hD hS => ?_)
  have hP : va_P D vwCl ([(h0, .inr (8, [.ref q1, .null, .null, .null, .null, .null, .int 0, .int 0, .int 0, .int 0, .int 0]))] ++ W2) H := hP
  have hD : va_D (qone h0 s.heap.size) ([(h0, .inr (8, [.ref q1, .null, .null, .null, .null, .null, .int 0, .int 0, .int 0, .int 0, .int 0]))] ++ W2) := hD
  refine lv_aload_n hx hb dX5_init_15 rfl (lv_at hl 0 rfl) ?_
  refine va_new (D := D) (ci := 3) (C := RX0) (T := TX0) (N := 13) (fs := [.null, .null, .int 0, .null, .int 0, .int 0, .int 0, .int 0, .int 0, .int 0, .null, .null, .null]) hx hb hts qin_X0 tyX0 tyX0_ok hown (hts _ qkn_58) (hts _ qkn_59) (hts _ qkn_20) hK hP hD hS hA rfl (fun j hj => by match j, hj with | 0, _ => rfl | 1, _ => rfl | 2, _ => rfl | 3, _ => rfl | 4, _ => rfl | 5, _ => rfl | 6, _ => rfl | 7, _ => rfl | 8, _ => rfl | 9, _ => rfl | 10, _ => rfl | 11, _ => rfl | 12, _ => rfl) (Nat.le_of_ble_eq_true rfl) (Nat.le_of_ble_eq_true rfl) dX5_init_16 (fun q3 H hP hD hS => ?_)
  refine lv_dup hx hb dX5_init_19 rfl ?_
  refine q_mkI (rest := [.ref q3, .ref h0]) hx hb hC.2.2.1 hown hts hC.2.2.2.2.2.2.1 (mX0_init (l := l) (D := D) (G := G) (h0 := q3)) hP hD hS hA qkn_60 qkn_61 qkn_20 qkn_62 rfl qhd_X0_init ⟨Nat.le_of_ble_eq_true rfl, Nat.le_of_ble_eq_true rfl⟩ hl.1 (Nat.le_of_ble_eq_true rfl) dX5_init_20 ⟨Nat.le_of_ble_eq_true rfl, Nat.le_of_ble_eq_true rfl⟩ (fun W4 H locs hW4 hP hD hS => ?_)
  refine va_putF (D := D) (ci := 8) (v := .ref q3) (ty := .object RX0) (C := RX5) (T := TX5) (N := 11) hx hb hts qin_X5 tyX5 tyX5_ok nmX5 hown hK hP hD hS 0 rfl rfl 1 (by decide) (hts _ qkn_227) (fun _ h9 => h9) rfl hC.2.2.2.2.2.2.2 rfl (by decide +kernel) rfl rfl (Nat.le_of_ble_eq_true rfl) dX5_init_23 (fun H locs hP hD hS => ?_)
  have hP : va_P D vwCl ([(h0, .inr (8, [.ref q1, .ref q3, .null, .null, .null, .null, .int 0, .int 0, .int 0, .int 0, .int 0]))] ++ W2 ++ W4) H := hP
  have hD : va_D (qone h0 s.heap.size) ([(h0, .inr (8, [.ref q1, .ref q3, .null, .null, .null, .null, .int 0, .int 0, .int 0, .int 0, .int 0]))] ++ W2 ++ W4) := hD
  refine lv_aload_n hx hb dX5_init_26 rfl (lv_at hl 0 rfl) ?_
  refine va_new (D := D) (ci := 3) (C := RX0) (T := TX0) (N := 13) (fs := [.null, .null, .int 0, .null, .int 0, .int 0, .int 0, .int 0, .int 0, .int 0, .null, .null, .null]) hx hb hts qin_X0 tyX0 tyX0_ok hown (hts _ qkn_58) (hts _ qkn_59) (hts _ qkn_20) hK hP hD hS hA rfl (fun j hj => by match j, hj with | 0, _ => rfl | 1, _ => rfl | 2, _ => rfl | 3, _ => rfl | 4, _ => rfl | 5, _ => rfl | 6, _ => rfl | 7, _ => rfl | 8, _ => rfl | 9, _ => rfl | 10, _ => rfl | 11, _ => rfl | 12, _ => rfl) (Nat.le_of_ble_eq_true rfl) (Nat.le_of_ble_eq_true rfl) dX5_init_27 (fun q5 H hP hD hS => ?_)
  refine lv_dup hx hb dX5_init_30 rfl ?_
  refine q_mkI (rest := [.ref q5, .ref h0]) hx hb hC.2.2.1 hown hts hC.2.2.2.2.2.2.1 (mX0_init (l := l) (D := D) (G := G) (h0 := q5)) hP hD hS hA qkn_60 qkn_61 qkn_20 qkn_62 rfl qhd_X0_init ⟨Nat.le_of_ble_eq_true rfl, Nat.le_of_ble_eq_true rfl⟩ hl.1 (Nat.le_of_ble_eq_true rfl) dX5_init_31 ⟨Nat.le_of_ble_eq_true rfl, Nat.le_of_ble_eq_true rfl⟩ (fun W6 H locs hW6 hP hD hS => ?_)
  refine va_putF (D := D) (ci := 8) (v := .ref q5) (ty := .object RX0) (C := RX5) (T := TX5) (N := 11) hx hb hts qin_X5 tyX5 tyX5_ok nmX5 hown hK hP hD hS 0 rfl rfl 2 (by decide) (hts _ qkn_228) (fun _ h9 => h9) rfl hC.2.2.2.2.2.2.2 rfl (by decide +kernel) rfl rfl (Nat.le_of_ble_eq_true rfl) dX5_init_34 (fun H locs hP hD hS => ?_)
  have hP : va_P D vwCl ([(h0, .inr (8, [.ref q1, .ref q3, .ref q5, .null, .null, .null, .int 0, .int 0, .int 0, .int 0, .int 0]))] ++ W2 ++ W4 ++ W6) H := hP
  have hD : va_D (qone h0 s.heap.size) ([(h0, .inr (8, [.ref q1, .ref q3, .ref q5, .null, .null, .null, .int 0, .int 0, .int 0, .int 0, .int 0]))] ++ W2 ++ W4 ++ W6) := hD
  refine lv_aload_n hx hb dX5_init_37 rfl (lv_at hl 0 rfl) ?_
  refine va_new (D := D) (ci := 4) (C := RX1) (T := TX1) (N := 3) (fs := [.null, .int 0, .int 0]) hx hb hts qin_X1 tyX1 tyX1_ok hown (hts _ qkn_161) (hts _ qkn_162) (hts _ qkn_22) hK hP hD hS hA rfl (fun j hj => by match j, hj with | 0, _ => rfl | 1, _ => rfl | 2, _ => rfl) (Nat.le_of_ble_eq_true rfl) (Nat.le_of_ble_eq_true rfl) dX5_init_38 (fun q7 H hP hD hS => ?_)
  refine lv_dup hx hb dX5_init_41 rfl ?_
  refine q_mkI (rest := [.ref q7, .ref h0]) hx hb hC.2.2.1 hown hts hC.2.2.2.2.2.2.1 (mX1_init (l := l) (D := D) (G := G) (h0 := q7)) hP hD hS hA qkn_163 qkn_164 qkn_22 qkn_165 rfl qhd_X1_init ⟨Nat.le_of_ble_eq_true rfl, Nat.le_of_ble_eq_true rfl⟩ hl.1 (Nat.le_of_ble_eq_true rfl) dX5_init_42 ⟨Nat.le_of_ble_eq_true rfl, Nat.le_of_ble_eq_true rfl⟩ (fun W8 H locs hW8 hP hD hS => ?_)
  refine va_putF (D := D) (ci := 8) (v := .ref q7) (ty := .object RX1) (C := RX5) (T := TX5) (N := 11) hx hb hts qin_X5 tyX5 tyX5_ok nmX5 hown hK hP hD hS 0 rfl rfl 3 (by decide) (hts _ qkn_229) (fun _ h9 => h9) rfl hC.2.2.2.2.2.2.2 rfl (by decide +kernel) rfl rfl (Nat.le_of_ble_eq_true rfl) dX5_init_45 (fun H locs hP hD hS => ?_)
  have hP : va_P D vwCl ([(h0, .inr (8, [.ref q1, .ref q3, .ref q5, .ref q7, .null, .null, .int 0, .int 0, .int 0, .int 0, .int 0]))] ++ W2 ++ W4 ++ W6 ++ W8) H := hP
  have hD : va_D (qone h0 s.heap.size) ([(h0, .inr (8, [.ref q1, .ref q3, .ref q5, .ref q7, .null, .null, .int 0, .int 0, .int 0, .int 0, .int 0]))] ++ W2 ++ W4 ++ W6 ++ W8) := hD
  refine lv_aload_n hx hb dX5_init_48 rfl (lv_at hl 0 rfl) ?_
  refine va_new (D := D) (ci := 7) (C := RX4) (T := TX4) (N := 7) (fs := [.null, .int 0, .null, .null, .null, .int 0, .int 0]) hx hb hts qin_X4 tyX4 tyX4_ok hown (hts _ qkn_181) (hts _ qkn_182) (hts _ qkn_23) hK hP hD hS hA rfl (fun j hj => by match j, hj with | 0, _ => rfl | 1, _ => rfl | 2, _ => rfl | 3, _ => rfl | 4, _ => rfl | 5, _ => rfl | 6, _ => rfl) (Nat.le_of_ble_eq_true rfl) (Nat.le_of_ble_eq_true rfl) dX5_init_49 (fun q9 H hP hD hS => ?_)
  refine lv_dup hx hb dX5_init_52 rfl ?_
  refine q_mkIN (rest := [.ref q9, .ref h0]) hx hb hC.2.2.1 hown hts hC.2.2.2.2.2.2.1 (mX4_init (l := l) (D := D) (G := G) (h0 := q9)) hP hD hS hA qkn_183 qkn_184 qkn_23 qkn_185 rfl qhd_X4_init ⟨Nat.le_of_ble_eq_true rfl, Nat.le_of_ble_eq_true rfl⟩ hl.1 (Nat.le_of_ble_eq_true rfl) dX5_init_53 ⟨Nat.le_of_ble_eq_true rfl, Nat.le_of_ble_eq_true rfl⟩ (fun W10 H locs hW10 hP hD hS => ?_)
  refine va_putF (D := D) (ci := 8) (v := .ref q9) (ty := .object RX4) (C := RX5) (T := TX5) (N := 11) hx hb hts qin_X5 tyX5 tyX5_ok nmX5 hown hK hP hD hS 0 rfl rfl 4 (by decide) (hts _ qkn_230) (fun _ h9 => h9) rfl hC.2.2.2.2.2.2.2 rfl (by decide +kernel) rfl rfl (Nat.le_of_ble_eq_true rfl) dX5_init_56 (fun H locs hP hD hS => ?_)
  have hP : va_P D vwCl ([(h0, .inr (8, [.ref q1, .ref q3, .ref q5, .ref q7, .ref q9, .null, .int 0, .int 0, .int 0, .int 0, .int 0]))] ++ W2 ++ W4 ++ W6 ++ W8 ++ W10) H := hP
  have hD : va_D (qone h0 s.heap.size) ([(h0, .inr (8, [.ref q1, .ref q3, .ref q5, .ref q7, .ref q9, .null, .int 0, .int 0, .int 0, .int 0, .int 0]))] ++ W2 ++ W4 ++ W6 ++ W8 ++ W10) := hD
  refine lv_aload_n hx hb dX5_init_59 rfl (lv_at hl 0 rfl) ?_
  refine va_new (D := D) (ci := 5) (C := RX2) (T := TX2) (N := 2) (fs := [.null, .int 0]) hx hb hts qin_X2 tyX2 tyX2_ok hown (hts _ qkn_212) (hts _ qkn_213) (hts _ qkn_24) hK hP hD hS hA rfl (fun j hj => by match j, hj with | 0, _ => rfl | 1, _ => rfl) (Nat.le_of_ble_eq_true rfl) (Nat.le_of_ble_eq_true rfl) dX5_init_60 (fun q11 H hP hD hS => ?_)
  refine lv_dup hx hb dX5_init_63 rfl ?_
  refine q_mkIN (rest := [.ref q11, .ref h0]) hx hb hC.2.2.1 hown hts hC.2.2.2.2.2.2.1 (mX2_init (l := l) (D := D) (G := G) (h0 := q11)) hP hD hS hA qkn_214 qkn_215 qkn_24 qkn_216 rfl qhd_X2_init ⟨Nat.le_of_ble_eq_true rfl, Nat.le_of_ble_eq_true rfl⟩ hl.1 (Nat.le_of_ble_eq_true rfl) dX5_init_64 ⟨Nat.le_of_ble_eq_true rfl, Nat.le_of_ble_eq_true rfl⟩ (fun W12 H locs hW12 hP hD hS => ?_)
  refine va_putF (D := D) (ci := 8) (v := .ref q11) (ty := .object RX2) (C := RX5) (T := TX5) (N := 11) hx hb hts qin_X5 tyX5 tyX5_ok nmX5 hown hK hP hD hS 0 rfl rfl 5 (by decide) (hts _ qkn_231) (fun _ h9 => h9) rfl hC.2.2.2.2.2.2.2 rfl (by decide +kernel) rfl rfl (Nat.le_of_ble_eq_true rfl) dX5_init_67 (fun H locs hP hD hS => ?_)
  have hP : va_P D vwCl ([(h0, .inr (8, [.ref q1, .ref q3, .ref q5, .ref q7, .ref q9, .ref q11, .int 0, .int 0, .int 0, .int 0, .int 0]))] ++ W2 ++ W4 ++ W6 ++ W8 ++ W10 ++ W12) H := hP
  have hD : va_D (qone h0 s.heap.size) ([(h0, .inr (8, [.ref q1, .ref q3, .ref q5, .ref q7, .ref q9, .ref q11, .int 0, .int 0, .int 0, .int 0, .int 0]))] ++ W2 ++ W4 ++ W6 ++ W8 ++ W10 ++ W12) := hD
  refine lv_aload_n hx hb dX5_init_70 rfl (lv_at hl 0 rfl) ?_
  refine lv_iconst (v := 0) hx hb dX5_init_71 (by decide) ?_
  refine va_put (D := D) (ci := 8) (v := .int 0) (ty := .boolean) (C := RX5) (T := TX5) (N := 11) hx hb hts qin_X5 tyX5 tyX5_ok nmX5 hown hK hP hD hS 0 rfl rfl 6 (by decide) (hts _ qkn_232) (fun _ h9 => h9) rfl (by decide +kernel) rfl rfl (Nat.le_of_ble_eq_true rfl) dX5_init_72 (fun H locs hP hD hS => ?_)
  have hP : va_P D vwCl ([(h0, .inr (8, [.ref q1, .ref q3, .ref q5, .ref q7, .ref q9, .ref q11, .int 0, .int 0, .int 0, .int 0, .int 0]))] ++ W2 ++ W4 ++ W6 ++ W8 ++ W10 ++ W12) H := hP
  have hD : va_D (qone h0 s.heap.size) ([(h0, .inr (8, [.ref q1, .ref q3, .ref q5, .ref q7, .ref q9, .ref q11, .int 0, .int 0, .int 0, .int 0, .int 0]))] ++ W2 ++ W4 ++ W6 ++ W8 ++ W10 ++ W12) := hD
  refine lv_aload_n hx hb dX5_init_75 rfl (lv_at hl 0 rfl) ?_
  refine lv_iconst (v := (-1)) hx hb dX5_init_76 (by decide) ?_
  refine va_put (D := D) (ci := 8) (v := .int (-1)) (ty := .int) (C := RX5) (T := TX5) (N := 11) hx hb hts qin_X5 tyX5 tyX5_ok nmX5 hown hK hP hD hS 0 rfl rfl 7 (by decide) (hts _ qkn_233) (fun _ h9 => h9) rfl (by decide +kernel) rfl rfl (Nat.le_of_ble_eq_true rfl) dX5_init_77 (fun H locs hP hD hS => ?_)
  have hP : va_P D vwCl ([(h0, .inr (8, [.ref q1, .ref q3, .ref q5, .ref q7, .ref q9, .ref q11, .int 0, .int (-1), .int 0, .int 0, .int 0]))] ++ W2 ++ W4 ++ W6 ++ W8 ++ W10 ++ W12) H := hP
  have hD : va_D (qone h0 s.heap.size) ([(h0, .inr (8, [.ref q1, .ref q3, .ref q5, .ref q7, .ref q9, .ref q11, .int 0, .int (-1), .int 0, .int 0, .int 0]))] ++ W2 ++ W4 ++ W6 ++ W8 ++ W10 ++ W12) := hD
  refine lv_aload_n hx hb dX5_init_80 rfl (lv_at hl 0 rfl) ?_
  refine lv_iconst (v := 0) hx hb dX5_init_81 (by decide) ?_
  refine va_put (D := D) (ci := 8) (v := .int 0) (ty := .int) (C := RX5) (T := TX5) (N := 11) hx hb hts qin_X5 tyX5 tyX5_ok nmX5 hown hK hP hD hS 0 rfl rfl 8 (by decide) (hts _ qkn_234) (fun _ h9 => h9) rfl (by decide +kernel) rfl rfl (Nat.le_of_ble_eq_true rfl) dX5_init_82 (fun H locs hP hD hS => ?_)
  have hP : va_P D vwCl ([(h0, .inr (8, [.ref q1, .ref q3, .ref q5, .ref q7, .ref q9, .ref q11, .int 0, .int (-1), .int 0, .int 0, .int 0]))] ++ W2 ++ W4 ++ W6 ++ W8 ++ W10 ++ W12) H := hP
  have hD : va_D (qone h0 s.heap.size) ([(h0, .inr (8, [.ref q1, .ref q3, .ref q5, .ref q7, .ref q9, .ref q11, .int 0, .int (-1), .int 0, .int 0, .int 0]))] ++ W2 ++ W4 ++ W6 ++ W8 ++ W10 ++ W12) := hD
  refine lv_aload_n hx hb dX5_init_85 rfl (lv_at hl 0 rfl) ?_
  refine lv_iconst (v := 0) hx hb dX5_init_86 (by decide) ?_
  refine va_put (D := D) (ci := 8) (v := .int 0) (ty := .int) (C := RX5) (T := TX5) (N := 11) hx hb hts qin_X5 tyX5 tyX5_ok nmX5 hown hK hP hD hS 0 rfl rfl 9 (by decide) (hts _ qkn_235) (fun _ h9 => h9) rfl (by decide +kernel) rfl rfl (Nat.le_of_ble_eq_true rfl) dX5_init_87 (fun H locs hP hD hS => ?_)
  have hP : va_P D vwCl ([(h0, .inr (8, [.ref q1, .ref q3, .ref q5, .ref q7, .ref q9, .ref q11, .int 0, .int (-1), .int 0, .int 0, .int 0]))] ++ W2 ++ W4 ++ W6 ++ W8 ++ W10 ++ W12) H := hP
  have hD : va_D (qone h0 s.heap.size) ([(h0, .inr (8, [.ref q1, .ref q3, .ref q5, .ref q7, .ref q9, .ref q11, .int 0, .int (-1), .int 0, .int 0, .int 0]))] ++ W2 ++ W4 ++ W6 ++ W8 ++ W10 ++ W12) := hD
  refine lv_aload_n hx hb dX5_init_90 rfl (lv_at hl 0 rfl) ?_
  refine lv_iconst (v := 0) hx hb dX5_init_91 (by decide) ?_
  refine va_put (D := D) (ci := 8) (v := .int 0) (ty := .int) (C := RX5) (T := TX5) (N := 11) hx hb hts qin_X5 tyX5 tyX5_ok nmX5 hown hK hP hD hS 0 rfl rfl 10 (by decide) (hts _ qkn_236) (fun _ h9 => h9) rfl (by decide +kernel) rfl rfl (Nat.le_of_ble_eq_true rfl) dX5_init_92 (fun H locs hP hD hS => ?_)
  have hP : va_P D vwCl ([(h0, .inr (8, [.ref q1, .ref q3, .ref q5, .ref q7, .ref q9, .ref q11, .int 0, .int (-1), .int 0, .int 0, .int 0]))] ++ W2 ++ W4 ++ W6 ++ W8 ++ W10 ++ W12) H := hP
  have hD : va_D (qone h0 s.heap.size) ([(h0, .inr (8, [.ref q1, .ref q3, .ref q5, .ref q7, .ref q9, .ref q11, .int 0, .int (-1), .int 0, .int 0, .int 0]))] ++ W2 ++ W4 ++ W6 ++ W8 ++ W10 ++ W12) := hD
  exact q_cret hC hr (W0 := [(h0, .inr (8, [.ref q1, .ref q3, .ref q5, .ref q7, .ref q9, .ref q11, .int 0, .int (-1), .int 0, .int 0, .int 0]))] ++ W2 ++ W4 ++ W6 ++ W8 ++ W10 ++ W12) ⟨q1, W2, q3, W4, q5, W6, q7, W8, q9, W10, q11, W12, hW2, hW4, hW6, hW8, hW10, hW12, rfl⟩ hP hD hS (Nat.le_of_ble_eq_true rfl) (Nat.le_of_ble_eq_true rfl) dX5_init_95
