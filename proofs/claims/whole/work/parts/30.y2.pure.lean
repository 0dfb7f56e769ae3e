-- orders: the loops
theorem pc_ca {w : qMem} {h n T : Nat} {P : Nat → Nat → Int32} (hh : h < 12) (hn : n ≤ 12) (hT : T < 2 ^ 30) (hW : ∀ i, i < n → pWF T (P i)) (H : pHC w h n P) {i : Nat} (hi : i < n) : ∀ (d j fuel : Nat), j + d = n → d < fuel → fX0_countAhead_L11 w h fuel (nI i) (19 * h + 2 + i) (nI (pCt (pOf P (P i 0) i) j)) (nI j) = some (nI (pRk P (P i 0) n i))
  | 0, j, fuel + 1, e, _ => by
    have e : j = n := by omega
    subst e
    simp only [fX0_countAhead_L11, H.1]
    rw [if_pos (pz_ge (Nat.le_refl j) (by omega))]; rfl
  | d + 1, j, fuel + 1, e, hf => by
    have hj : j < n := by omega
    have ih := pc_ca hh hn hT hW H hi d (j + 1) fuel (by omega) (by omega)
    simp only [fX0_countAhead_L11, pz_at hh hn hj H.1, pz_b, pz_nm, nI_1]
    rw [if_neg (by rw [H.1]; exact nI_ge hj (by omega)), if_pos (pz_P hh (by omega)), H.2 j hj 0 (by decide), H.2 i hi 0 (by decide)]
    by_cases hk : P j 0 = P i 0
    · obtain ⟨r, er, r1, r2⟩ := pc_ord hT (hW j hj) (hW i hi) (H.2 j hj) (H.2 i hi) hk
      rw [er, pz_b, if_pos hk]
      by_cases z1 : r < 0
      · rw [if_pos z1, ← pCt_t (p := pOf P (P i 0) i) (pOf_i.mpr ⟨hk, Or.inl (r1.mp z1)⟩)]; exact ih
      · have n1 : ¬ pKy (P i) < pKy (P j) := fun y => z1 (r1.mpr y)
        rw [if_neg z1]
        by_cases z2 : r = 0
        · rw [if_pos z2]
          by_cases z3 : i ≤ j
          · rw [if_pos (nI_le z3 (by omega))]
            rw [pCt_f (p := pOf P (P i 0) i) (fun y => by have := (pOf_i.mp y).2; omega)] at ih
            exact ih
          · rw [if_neg (nI_ge (by omega) (by omega)), ← pCt_t (p := pOf P (P i 0) i) (pOf_i.mpr ⟨hk, Or.inr ⟨r2.mp z2, by omega⟩⟩)]; exact ih
        · have n2 : ¬ pKy (P j) = pKy (P i) := fun y => z2 (r2.mpr y)
          rw [if_neg z2]
          rw [pCt_f (p := pOf P (P i 0) i) (fun y => by have := (pOf_i.mp y).2; omega)] at ih
          exact ih
    · obtain ⟨r, er⟩ := pc_ord0 w (19 * h + 2 + j) (19 * h + 2 + i)
      rw [er, pz_b, if_neg hk]
      rw [pCt_f (p := pOf P (P i 0) i) (fun y => hk (pOf_i.mp y).1)] at ih
      exact ih
theorem pc_cah {w : qMem} {h n T i : Nat} {P : Nat → Nat → Int32} (hh : h < 12) (hn : n ≤ 12) (hT : T < 2 ^ 30) (hW : ∀ i, i < n → pWF T (P i)) (H : pHC w h n P) (hi : i < n) : fX0_countAhead w h (nI i) = some (nI (pRk P (P i 0) n i)) := by
  unfold fX0_countAhead
  rw [pz_at hh hn hi H.1, pz_b, if_pos (pz_P hh (by omega))]
  exact pc_ca hh hn hT hW H hi n 0 100 (by omega) (by omega)
theorem pc_no {w : qMem} {h n T : Nat} {P : Nat → Nat → Int32} (hh : h < 12) (hn : n ≤ 12) (hT : T < 2 ^ 30) (hW : ∀ i, i < n → pWF T (P i)) (H : pHC w h n P) (k a : Int32) : ∀ (d i fuel : Nat), i + d = n → d < fuel → (fX0_numberInOrder_L2 w h fuel k a (nI i) = some (-1) ∧ ∀ j, i ≤ j → j < n → P j 0 = k → ¬ nI (pRk P k n j) = a) ∨ ∃ j, i ≤ j ∧ j < n ∧ P j 0 = k ∧ nI (pRk P k n j) = a ∧ fX0_numberInOrder_L2 w h fuel k a (nI i) = some (nI j)
  | 0, i, fuel + 1, e, _ => by
    have e : i = n := by omega
    subst e
    refine Or.inl ⟨?_, fun j h1 h2 => absurd h2 (by omega)⟩
    simp only [fX0_numberInOrder_L2, H.1]
    rw [if_pos (pz_ge (Nat.le_refl i) (by omega))]
  | d + 1, i, fuel + 1, e, hf => by
    have hi : i < n := by omega
    have ih := pc_no hh hn hT hW H k a d (i + 1) fuel (by omega) (by omega)
    have go : fX0_numberInOrder_L2 w h (fuel + 1) k a (nI i) = fX0_numberInOrder_L2 w h fuel k a (nI (i + 1)) → (P i 0 = k → ¬ nI (pRk P k n i) = a) → (fX0_numberInOrder_L2 w h (fuel + 1) k a (nI i) = some (-1) ∧ ∀ j, i ≤ j → j < n → P j 0 = k → ¬ nI (pRk P k n j) = a) ∨ ∃ j, i ≤ j ∧ j < n ∧ P j 0 = k ∧ nI (pRk P k n j) = a ∧ fX0_numberInOrder_L2 w h (fuel + 1) k a (nI i) = some (nI j) := fun e no => by
      rw [e]
      rcases ih with ⟨g1, g2⟩ | ⟨j, g1, g2, g3, g4, g5⟩
      · refine Or.inl ⟨g1, fun j h1 h2 h3 => ?_⟩
        by_cases z : j = i
        · subst z; exact no h3
        · exact g2 j (by omega) h2 h3
      · exact Or.inr ⟨j, by omega, g2, g3, g4, g5⟩
    by_cases hk : P i 0 = k
    · have eC : fX0_countAhead w h (nI i) = some (nI (pRk P k n i)) := by rw [← hk]; exact pc_cah hh hn hT hW H hi
      by_cases z : nI (pRk P k n i) = a
      · refine Or.inr ⟨i, Nat.le_refl _, hi, hk, z, ?_⟩
        simp only [fX0_numberInOrder_L2, pz_at hh hn hi H.1, pz_b, pz_nm, eC]
        rw [if_neg (by rw [H.1]; exact nI_ge hi (by omega)), if_pos (pz_P hh (by omega)), H.2 i hi 0 (by decide), if_pos hk, if_pos z]
      · refine go ?_ (fun _ => z)
        simp only [fX0_numberInOrder_L2, pz_at hh hn hi H.1, pz_b, pz_nm, eC, nI_1]
        rw [if_neg (by rw [H.1]; exact nI_ge hi (by omega)), if_pos (pz_P hh (by omega)), H.2 i hi 0 (by decide), if_pos hk, if_neg z]
    · refine go ?_ (fun y => absurd y hk)
      simp only [fX0_numberInOrder_L2, pz_at hh hn hi H.1, pz_b, pz_nm, nI_1]
      rw [if_neg (by rw [H.1]; exact nI_ge hi (by omega)), if_pos (pz_P hh (by omega)), H.2 i hi 0 (by decide), if_neg hk]
theorem pr_nk {w : qMem} {n T : Nat} {P : Nat → Nat → Int32} {k29 : qMem → Int32 → Int32 → Int32 → Int32 → Option (Int32 × qMem)} (hn : n ≤ 12) (hT : T < 2 ^ 30) (hW : ∀ i, i < n → pWF T (P i)) (H : pHR (w 239) n P) (k a x3 : Int32) {i : Nat} (hi : i < n) : ∀ (d j fuel : Nat) (x5 : Int32), j + d = n → d < fuel → (P i 0 = k → x5 = nI (pCt (pOf P k i) j)) → fX6_placed_L53 k29 fuel w k a x3 (nI i) x5 (nI j) = (if P i 0 = k then if nI (pRk P k n i) = a then k29 w k a (nI i) (nI (i + 1)) else k29 w k a x3 (nI (i + 1)) else k29 w k a x3 (nI (i + 1)))
  | 0, j, fuel + 1, x5, e, _, h5 => by
    have e : j = n := by omega
    subst e
    have q0 : w 239 (15 + 7 * i) = P i 0 := H.2 i hi 0 (by decide)
    simp only [fX6_placed_L53, H.1, (pz_of_ (w := w) (i := i) (by omega)).1, pz_b, pz_nm, nI_1]
    rw [if_pos (pz_ge (Nat.le_refl j) (by omega)), q0]
    by_cases hk : P i 0 = k
    · rw [if_pos hk, if_pos hk, h5 hk]; rfl
    · rw [if_neg hk, if_neg hk]
  | d + 1, j, fuel + 1, x5, e, hf, h5 => by
    have hj : j < n := by omega
    have ih := pr_nk (k29 := k29) hn hT hW H k a x3 hi d (j + 1) fuel
    have q0 : w 239 (15 + 7 * j) = P j 0 := H.2 j hj 0 (by decide)
    simp only [fX6_placed_L53, (pz_of_ (w := w) (i := j) (by omega)).1, pz_b, fX6_placed_L88, pz_nm, nI_1, Int32.add_zero]
    rw [if_neg (by rw [H.1]; exact nI_ge hj (by omega)), q0]
    by_cases hk : P j 0 = k
    · rw [if_pos hk]
      obtain ⟨r, er, hr⟩ : ∃ r : Int32, fX6_ahead w (nI j) (nI i) k = some r ∧ (P i 0 = k → (0 < r ↔ pKy (P i) < pKy (P j)) ∧ (r = 0 ↔ pKy (P j) = pKy (P i))) := by
        by_cases hki : P i 0 = k
        · obtain ⟨r, h1, h2⟩ := pr_ah (w := w) (i := i) (j := j) (by omega) (by omega) hT (hW j hj) (hW i hi) (H.2 j hj) (H.2 i hi) hk hki
          exact ⟨r, h1, fun _ => h2⟩
        · obtain ⟨r, h1⟩ := pr_ah0 (w := w) (i := i) (j := j) (by omega) (by omega) k
          exact ⟨r, h1, fun y => absurd y hki⟩
      rw [er, pz_b]
      by_cases z1 : 0 < r
      · rw [if_pos z1]
        exact ih (x5 + 1) (by omega) (by omega) (fun y => by rw [pCt_t (p := pOf P k i) (pOf_i.mpr ⟨hk, Or.inl ((hr y).1.mp z1)⟩), ← nI_1, h5 y])
      · rw [if_neg z1]
        by_cases z2 : r = 0
        · rw [if_pos z2]
          by_cases z3 : i ≤ j
          · rw [if_pos (nI_le z3 (by omega))]
            exact ih x5 (by omega) (by omega) (fun y => by
              have e2 := (hr y).2.mp z2
              rw [pCt_f (p := pOf P k i) (fun u => by have := (pOf_i.mp u).2; omega)]; exact h5 y)
          · rw [if_neg (nI_ge (by omega) (by omega))]
            exact ih (x5 + 1) (by omega) (by omega) (fun y => by rw [pCt_t (p := pOf P k i) (pOf_i.mpr ⟨hk, Or.inr ⟨(hr y).2.mp z2, by omega⟩⟩), ← nI_1, h5 y])
        · rw [if_neg z2]
          exact ih x5 (by omega) (by omega) (fun y => by
            have n1 : ¬ pKy (P i) < pKy (P j) := fun u => z1 ((hr y).1.mpr u)
            have n2 : ¬ pKy (P j) = pKy (P i) := fun u => z2 ((hr y).2.mpr u)
            rw [pCt_f (p := pOf P k i) (fun u => by have := (pOf_i.mp u).2; omega)]; exact h5 y)
    · rw [if_neg hk, if_neg (show ¬ (0 : Int32) < -1 by decide), if_neg (show ¬ (-1 : Int32) = 0 by decide)]
      exact ih x5 (by omega) (by omega) (fun y => by rw [pCt_f (p := pOf P k i) (fun u => hk (pOf_i.mp u).1)]; exact h5 y)
theorem pr_no {w : qMem} {n T : Nat} {P : Nat → Nat → Int32} (hn : n ≤ 12) (hT : T < 2 ^ 30) (hW : ∀ i, i < n → pWF T (P i)) (H : pHR (w 239) n P) (h7 : w 238 7 = 0) (k a : Int32) : ∀ (d i fuel : Nat) (x3 : Int32), i + d = n → d < fuel → (fX6_placed_L29 fuel w k a x3 (nI i) = some (x3, w) ∧ ∀ j, i ≤ j → j < n → P j 0 = k → ¬ nI (pRk P k n j) = a) ∨ ∃ j, i ≤ j ∧ j < n ∧ P j 0 = k ∧ nI (pRk P k n j) = a ∧ fX6_placed_L29 fuel w k a x3 (nI i) = some (nI j, w)
  | 0, i, fuel + 1, x3, e, _ => by
    have e : i = n := by omega
    subst e
    refine Or.inl ⟨?_, fun j h1 h2 => absurd h2 (by omega)⟩
    simp only [fX6_placed_L29, H.1]
    rw [if_pos (pz_ge (Nat.le_refl i) (by omega))]
  | d + 1, i, fuel + 1, x3, e, hf => by
    have hi : i < n := by omega
    have ih := pr_no hn hT hW H h7 k a d (i + 1) fuel
    have e1 : fX6_placed_L29 (fuel + 1) w k a x3 (nI i) = (if P i 0 = k then if nI (pRk P k n i) = a then fX6_placed_L29 fuel w k a (nI i) (nI (i + 1)) else fX6_placed_L29 fuel w k a x3 (nI (i + 1)) else fX6_placed_L29 fuel w k a x3 (nI (i + 1))) := by
      have := pr_nk (k29 := fX6_placed_L29 fuel) hn hT hW H k a x3 hi n 0 100 0 (by omega) (by omega) (fun _ => rfl)
      simp only [fX6_placed_L29]
      rw [if_neg (by rw [H.1]; exact nI_ge hi (by omega)), if_pos h7]
      exact this
    rw [e1]
    by_cases hk : P i 0 = k
    · rw [if_pos hk]
      by_cases z : nI (pRk P k n i) = a
      · rw [if_pos z]
        rcases ih (nI i) (by omega) (by omega) with ⟨g1, g2⟩ | ⟨j, g1, g2, g3, g4, g5⟩
        · exact Or.inr ⟨i, Nat.le_refl _, hi, hk, z, g1⟩
        · exact Or.inr ⟨j, by omega, g2, g3, g4, g5⟩
      · rw [if_neg z]
        rcases ih x3 (by omega) (by omega) with ⟨g1, g2⟩ | ⟨j, g1, g2, g3, g4, g5⟩
        · refine Or.inl ⟨g1, fun j h1 h2 h3 => ?_⟩
          by_cases y : j = i
          · subst y; exact z
          · exact g2 j (by omega) h2 h3
        · exact Or.inr ⟨j, by omega, g2, g3, g4, g5⟩
    · rw [if_neg hk]
      rcases ih x3 (by omega) (by omega) with ⟨g1, g2⟩ | ⟨j, g1, g2, g3, g4, g5⟩
      · refine Or.inl ⟨g1, fun j h1 h2 h3 => ?_⟩
        by_cases y : j = i
        · subst y; exact absurd h3 hk
        · exact g2 j (by omega) h2 h3
      · exact Or.inr ⟨j, by omega, g2, g3, g4, g5⟩
theorem pr_no1 {w : qMem} (h7 : w 238 7 = 1) (fuel : Nat) (k a x3 x4 : Int32) : fX6_placed_L29 (fuel + 1) w k a x3 x4 = some (x3, w) := by
  simp only [fX6_placed_L29]
  by_cases z : w 239 0 ≤ x4
  · rw [if_pos z]
  · rw [if_neg z, if_neg (by rw [h7]; decide)]
theorem pq_ord {T : Nat} {w : qMem} (H : pI T w) (hT : T < 2 ^ 30) (k a : Int32) : ∃ w1 : qMem, (qbdn (qlh [4] (0 : Int32) (qbd3 (fX5_numberInOrder w k a) fun (k3 : Nat) (r5 : Int32) (w2 : qMem) => if k3 = 0 then some (0, r5, w2) else some (k3, 0, w2))) fun (k2 : Int32) (r1 : Int32) (w3 : qMem) => qbd2 (qbd2 (fX6_placed w3 k a) fun (r2 : Int32) (w3 : qMem) => some (r2, w3)) fun (b7 : Int32) (w9 : qMem) => qbd (fX6_thrown w9) fun (b10 : Int32) => if b10 = k2 then if k2 = 0 then if r1 = b7 then some w9 else none else some w9 else none) = some w1 ∧ pI (T + 2000) w1 := by
  obtain ⟨S, hW, hH, hR⟩ := H.1
  have hn := hW.1
  have hle := pKn_le (sP S) k (sN S)
  have cN := pc_no (h := 0) (by decide) hn hT hW.2.1 hH.1 k a (sN S) 0 100 (by omega) (by omega)
  rcases pj_inl (pKn (sP S) k (sN S)) (by omega) a with ⟨r, hr, ea, b1, b2, qp⟩ | ⟨hb, qp⟩
  · obtain ⟨i0, hi0, hk0, er⟩ := pRk_on hr
    have uq : ∀ j, j < sN S → sP S j 0 = k → nI (pRk (sP S) k (sN S) j) = a → j = i0 := fun j hj hk ej => by
      have lt := pRk_lt hj hk
      rw [ea, nI_eq (by omega) (by omega)] at ej
      exact pRk_in hj hi0 hk hk0 (ej.trans er.symm)
    have e1 : fX0_numberInOrder_L2 w 0 100 k a (nI 0) = some (nI i0) := by
      rcases cN with ⟨_, g⟩ | ⟨j, _, hj, hk, ej, e1⟩
      · exact absurd (show nI (pRk (sP S) k (sN S) i0) = a by rw [er, ea]) (g i0 (by omega) hi0 hk0)
      · rw [uq j hj hk ej] at e1; exact e1
    have e2 : fX6_placed_L29 100 (quw w 238 7 0) k a 0 (nI 0) = some (nI i0, quw w 238 7 0) := by
      rcases pr_no hn hT hW.2.1 (pR_7 0 hR).1 pz_w k a (sN S) 0 100 0 (by omega) (by omega) with ⟨_, g⟩ | ⟨j, _, hj, hk, ej, e1⟩
      · exact absurd (show nI (pRk (sP S) k (sN S) i0) = a by rw [er, ea]) (g i0 (by omega) hi0 hk0)
      · rw [uq j hj hk ej] at e1; exact e1
    have e1 : fX0_numberInOrder w 0 k a = some (nI i0) := e1
    have e2 : fX6_placed_L29 100 (quw w 238 7 0) k a 0 0 = some (nI i0, quw w 238 7 0) := e2
    refine ⟨quw w 238 7 0, ?_, (pI_7 H 0).mo (by omega)⟩
    unfold fX5_numberInOrder fX6_placed
    rw [e1, pz_b, if_pos (nI_pos' (by omega)), pz_b3, if_pos rfl]
    have : qlh [4] (0 : Int32) (some (0, nI i0, w)) = some (0, nI i0, w) := rfl
    rw [this, pz_bn, pr_km hn hR.1, pz_b, qp, pz_b, if_neg (by decide), pz_nm, e2, pz_b2, pz_b2, fX6_thrown, pz_w, pz_b, if_pos rfl, if_pos rfl, if_pos rfl]
  · have e1 : fX0_numberInOrder_L2 w 0 100 k a (nI 0) = some (-1) := by
      rcases cN with ⟨g, _⟩ | ⟨j, _, hj, hk, ej, e1⟩
      · exact g
      · have lt := pRk_lt hj hk
        exfalso
        rcases hb with z | ⟨_, z⟩
        · rw [← ej] at z; exact nI_pos (by omega) z
        · rw [← ej] at z; exact z (nI_lt lt (by omega))
    have e1 : fX0_numberInOrder w 0 k a = some (-1) := e1
    refine ⟨quw w 238 7 1, ?_, (pI_7 H 1).mo (by omega)⟩
    unfold fX5_numberInOrder fX6_placed
    rw [e1, pz_b, if_neg (by decide), pz_b3, if_neg (by decide)]
    have : qlh [4] (0 : Int32) (some (4, 0, w)) = some (1, 0, w) := rfl
    rw [this, pz_bn, pr_km hn hR.1, pz_b, qp, pz_b, if_pos rfl, pz_nm, pr_no1 pz_w 99, pz_b2, pz_b2, fX6_thrown, pz_w, pz_b, if_pos rfl, if_neg (by decide)]
theorem pq_20 {T : Nat} {w : qMem} (hT : T < 2 ^ 30) (a1 a2 a3 : Int32) (H : pI T w) : ∃ w1 : qMem, qs_20 w a1 a2 a3 = some w1 ∧ pI (T + 2000) w1 := pq_ord H hT 1 a1
theorem pq_21 {T : Nat} {w : qMem} (hT : T < 2 ^ 30) (a1 a2 a3 : Int32) (H : pI T w) : ∃ w1 : qMem, qs_21 w a1 a2 a3 = some w1 ∧ pI (T + 2000) w1 := pq_ord H hT 2 a1
theorem pq_22 {T : Nat} {w : qMem} (hT : T < 2 ^ 30) (a1 a2 a3 : Int32) (H : pI T w) : ∃ w1 : qMem, qs_22 w a1 a2 a3 = some w1 ∧ pI (T + 2000) w1 := pq_ord H hT 3 a1
