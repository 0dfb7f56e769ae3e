theorem qko_CLK : Cond.classLink RL 9 RX5 ∈ lw_gd := by decide +kernel
theorem qko_COK : Cond.code yX5_init cX5_init 1 none ∈ lw_gd := by decide +kernel
theorem qhd_L_drawn : yL_drawn.cls ≠ "java/lang/invoke/MethodHandle" ∧ yL_drawn.cls ≠ "java/lang/invoke/VarHandle" ∧ (parseMethodDescriptor yL_drawn.desc).map (fun d => d.parameters.length) = some 1 := ⟨by decide +kernel, by decide +kernel, by decide +kernel⟩
set_option maxHeartbeats 4000000 in
set_option maxRecDepth 100000 in
theorem mL_drawn {l : Launch} {D : va_G} {G : Nat → ClassId} {ad0 : Nat → Nat} {b0 L : Nat} {xs : Nat → Int32} {wF : qMem} (hJ0 : qInj ad0) (hst : l.stackTraces = false) (hf : fL_drawn L xs = some wF) : lCM l D G ad0 yL_drawn (Cond.code yL_drawn cL_drawn 9 (some (.object "QuakeRehearsal"))) 11 293 2142 [.ref b0] (lX [] [] []) (lSO b0 L xs) (lQo D G ad0 wF) := by
  refine l_start RL rfl (by decide +kernel) hJ0 (fun a b h => by simp only [lQo, h]) (Nat.le_of_ble_eq_true rfl) ?_
  intro p e s m args below meth c ls hC hr _ hE hR hl
  have hx := hC.1
  have hb := hC.2.1
  have hown := hC.2.2.2.1
  have hts := hC.2.2.2.2.1
  have hK := hC.2.2.2.2.2.2.1
  have hl : lv_has ls 9 [(0, .ref b0)] := hl
  have hwc : qwc D G s := ⟨hK, hC.2.2.2.2.2.2.2.2.1.2.2.2.2, hE.2.1, hE.2.2⟩
  have hA : ∀ q : Nat, s.heap.size ≤ q → va_A (lX [] [] []) s.heap.size q := fun q h => Or.inr h
  have hS := hR.2.2
  have hP : va_P D vwCl [] s.heap := hR.1
  have hD : va_D (va_A (lX [] [] []) s.heap.size) [] := hR.2.1
  refine va_new (D := D) (ci := 8) (C := RX5) (T := TX5) (N := 11) (fs := [.null, .null, .null, .null, .null, .null, .int 0, .int 0, .int 0, .int 0, .int 0]) hx hb hts qin_X5 tyX5 tyX5_ok hown (hts _ qko_CLK) (hts _ qkX_inst) (hts _ qk_19) hK hP hD hS hA rfl (fun j hj => by rcases (show j = 0 ∨ j = 1 ∨ j = 2 ∨ j = 3 ∨ j = 4 ∨ j = 5 ∨ j = 6 ∨ j = 7 ∨ j = 8 ∨ j = 9 ∨ j = 10 by omega) with rfl | rfl | rfl | rfl | rfl | rfl | rfl | rfl | rfl | rfl | rfl <;> rfl) (Nat.le_of_ble_eq_true rfl) (Nat.le_of_ble_eq_true rfl) dL_drawn_0 (fun h0 H hP hD hS => ?_)
  refine lv_dup hx hb dL_drawn_3 rfl ?_
  refine q_mkI (rest := [.ref h0]) hx hb hC.2.2.1 hown hts hwc (mX5_init (l := l) (D := D) (G := G) (h0 := h0)) hP hD hS hA qkl_52 qk_53 qk_19 qko_COK rfl qhd_X5_init ⟨Nat.le_of_ble_eq_true rfl, Nat.le_of_ble_eq_true rfl⟩ hl.1 (Nat.le_of_ble_eq_true rfl) dL_drawn_4 ⟨Nat.le_of_ble_eq_true rfl, Nat.le_of_ble_eq_true rfl⟩ (fun W5 H locs hW5 hP hD hS => ?_)
  obtain ⟨q1, W2, q3, W4, q5, W6', q7, W8, q9, W10, q11, W12, ⟨a1, g1, rfl⟩, ⟨a2, g2, rfl⟩, ⟨a3, g3, rfl⟩, ⟨k1, f, as, hf9, rfl⟩, ⟨s1, s2, s3, s4, rfl⟩, ⟨l1, rfl⟩, rfl⟩ := hW5
  subst g1; subst g2; subst g3
  have hP : va_P D vwCl (qprew G h0 q7 k1 q9 q11 a1 a2 a3 as f ++ qrestw G q9 s1 s2 s3 s4 q11 l1 []) H := by
    simpa only [qprew, qrestw, List.append_assoc, List.nil_append, List.cons_append, List.append_nil] using hP
  have hD : va_D (va_A (lX [] [] []) s.heap.size) (qprew G h0 q7 k1 q9 q11 a1 a2 a3 as f ++ qrestw G q9 s1 s2 s3 s4 q11 l1 []) := by
    simpa only [qprew, qrestw, List.append_assoc, List.nil_append, List.cons_append, List.append_nil] using hD
  obtain ⟨hP, hD⟩ := q_final (sk := fun i => ad0 (1000 + i)) (sv := fun i => ad0 (2000 + i)) hf9 hP hD (Nat.zero_le 2)
  have t0 : qad a1 a2 a3 as (qtsl h0 q7 k1 q9 s1 s2 s3 s4 q11 l1) (fun i => ad0 (1000 + i)) (fun i => ad0 (2000 + i)) 228 = h0 := rfl
  have he : ∀ k : Nat, 1000 ≤ k → qad a1 a2 a3 as (qtsl h0 q7 k1 q9 s1 s2 s3 s4 q11 l1) (fun i => ad0 (1000 + i)) (fun i => ad0 (2000 + i)) k = ad0 k := fun k hk => by
    unfold qad
    rw [if_neg (by omega), if_neg (by omega), if_neg (by omega), if_neg (by omega), if_neg (by omega)]
    split
    · show ad0 (1000 + (k - 1000)) = _; rw [show 1000 + (k - 1000) = k by omega]
    · show ad0 (2000 + (k - 2000)) = _; rw [show 2000 + (k - 2000) = k by omega]
  generalize qad a1 a2 a3 as (qtsl h0 q7 k1 q9 s1 s2 s3 s4 q11 l1) (fun i => ad0 (1000 + i)) (fun i => ad0 (2000 + i)) = ad at hP hD t0 he
  rw [List.append_nil] at hP hD
  obtain ⟨hJ, hsz⟩ := lR_J hD
  obtain ⟨hC1, hA1⟩ := lCx_ad hC he hJ hsz
  have e1 : lX (qcells G ad qw0) [] [] = qcells G ad qw0 := by unfold lX; simp
  have hR1 : lR D (lX [] [] []) (lX (qcells G ad qw0) [] []) s H locs := by rw [e1]; exact ⟨hP, hD, hS⟩
  have hE1 : lSA b0 L xs ad ad0 (lA ad (lX [] [] []) s.heap.size) s s.heap := ⟨⟨hE.1.1, hE.1.2.1, fun h => hE.1.2.2 (hA1 _ h)⟩, he⟩
  rw [← t0]
  exact mL_drawn_L7 hst hC1 hr hE1 qw0 _ _ _ _ _ hf hR1 hl (by omega) (by omega)
