-- orders: the loops
theorem pc_ca {w : qMem} {h n T : Nat} {P : Nat → Nat → Int32} (hh : h < 12) (hn : n ≤ 12) (hT : T < 2 ^ 30) (hW : ∀ i, i < n → pWF T (P i)) (H : pHC w h n P) {i : Nat} (hi : i < n) : ∀ (d j fuel : Nat), j + d = n → d < fuel → fX0_countAhead_L11 w h fuel (nI i) (19 * h + 2 + i) (nI (pCt (pOf P (P i 0) i) j)) (nI j) = some (nI (pRk P (P i 0) n i))
  | 0, j, fuel + 1, e, _ => by
    have e : j = n := by omega
    subst e
    simp only [fX0_countAhead_L11, H.1]
    rw [if_pos (pz_ge (Nat.le_refl j) (by omega))]; rfl
  | d + 1, j, fuel + 1, e, hf => by
    have hj : j < n := by omega
    have ih := pc_ca hh hn hT hW H hi d (j + 1) fuel (by omega) (by omega)
    simp only [fX0_countAhead_L11, pz_at hh hn hj H.1, pz_b, pz_nm, nI_1]
    rw [if_neg (by rw [H.1]; exact nI_ge hj (by omega)), if_pos (pz_P hh (by omega)), H.2 j hj 0 (by decide), H.2 i hi 0 (by decide)]
    by_cases hk : P j 0 = P i 0
    · obtain ⟨r, er, r1, r2⟩ := pc_ord hT (hW j hj) (hW i hi) (H.2 j hj) (H.2 i hi) hk
      rw [er, pz_b, if_pos hk]
      by_cases z1 : r < 0
      · rw [if_pos z1, ← pCt_t (p := pOf P (P i 0) i) (pOf_i.mpr ⟨hk, Or.inl (r1.mp z1)⟩)]; exact ih
      · have n1 : ¬ pKy (P i) < pKy (P j) := fun y => z1 (r1.mpr y)
        rw [if_neg z1]
        by_cases z2 : r = 0
        · rw [if_pos z2]
          by_cases z3 : i ≤ j
          · rw [if_pos (nI_le z3 (by omega))]
            rw [pCt_f (p := pOf P (P i 0) i) (fun y => by have := (pOf_i.mp y).2; omega)] at ih
            exact ih
          · rw [if_neg (nI_ge (by omega) (by omega)), ← pCt_t (p := pOf P (P i 0) i) (pOf_i.mpr ⟨hk, Or.inr ⟨r2.mp z2, by omega⟩⟩)]; exact ih
        · have n2 : ¬ pKy (P j) = pKy (P i) := fun y => z2 (r2.mpr y)
          rw [if_neg z2]
          rw [pCt_f (p := pOf P (P i 0) i) (fun y => by have := (pOf_i.mp y).2; omega)] at ih
          exact ih
    · obtain ⟨r, er⟩ := pc_ord0 w (19 * h + 2 + j) (19 * h + 2 + i)
      rw [er, pz_b, if_neg hk]
      rw [pCt_f (p := pOf P (P i 0) i) (fun y => hk (pOf_i.mp y).1)] at ih
      exact ih
theorem pc_cah {w : qMem} {h n T i : Nat} {P : Nat → Nat → Int32} (hh : h < 12) (hn : n ≤ 12) (hT : T < 2 ^ 30) (hW : ∀ i, i < n → pWF T (P i)) (H : pHC w h n P) (hi : i < n) : fX0_countAhead w h (nI i) = some (nI (pRk P (P i 0) n i)) := by
  unfold fX0_countAhead
  rw [pz_at hh hn hi H.1, pz_b, if_pos (pz_P hh (by omega))]
  exact pc_ca hh hn hT hW H hi n 0 100 (by omega) (by omega)
theorem pc_no {w : qMem} {h n T : Nat} {P : Nat → Nat → Int32} (hh : h < 12) (hn : n ≤ 12) (hT : T < 2 ^ 30) (hW : ∀ i, i < n → pWF T (P i)) (H : pHC w h n P) (k a : Int32) : ∀ (d i fuel : Nat), i + d = n → d < fuel → (fX0_numberInOrder_L2 w h fuel k a (nI i) = some (-1) ∧ ∀ j, i ≤ j → j < n → P j 0 = k → ¬ nI (pRk P k n j) = a) ∨ ∃ j, i ≤ j ∧ j < n ∧ P j 0 = k ∧ nI (pRk P k n j) = a ∧ fX0_numberInOrder_L2 w h fuel k a (nI i) = some (nI j)
  | 0, i, fuel + 1, e, _ => by
    have e : i = n := by omega
    subst e
    refine Or.inl ⟨?_, fun j h1 h2 => absurd h2 (by omega)⟩
    simp only [fX0_numberInOrder_L2, H.1]
    rw [if_pos (pz_ge (Nat.le_refl i) (by omega))]
  | d + 1, i, fuel + 1, e, hf => by
    have hi : i < n := by omega
    have ih := pc_no hh hn hT hW H k a d (i + 1) fuel (by omega) (by omega)
    have go : fX0_numberInOrder_L2 w h (fuel + 1) k a (nI i) = fX0_numberInOrder_L2 w h fuel k a (nI (i + 1)) → (P i 0 = k → ¬ nI (pRk P k n i) = a) → (fX0_numberInOrder_L2 w h (fuel + 1) k a (nI i) = some (-1) ∧ ∀ j, i ≤ j → j < n → P j 0 = k → ¬ nI (pRk P k n j) = a) ∨ ∃ j, i ≤ j ∧ j < n ∧ P j 0 = k ∧ nI (pRk P k n j) = a ∧ fX0_numberInOrder_L2 w h (fuel + 1) k a (nI i) = some (nI j) := fun e no => by
      rw [e]
      rcases ih with ⟨g1, g2⟩ | ⟨j, g1, g2, g3, g4, g5⟩
      · refine Or.inl ⟨g1, fun j h1 h2 h3 => ?_⟩
        by_cases z : j = i
        · subst z; exact no h3
        · exact g2 j (by omega) h2 h3
      · exact Or.inr ⟨j, by omega, g2, g3, g4, g5⟩
    by_cases hk : P i 0 = k
    · have eC : fX0_countAhead w h (nI i) = some (nI (pRk P k n i)) := by rw [← hk]; exact pc_cah hh hn hT hW H hi
      by_cases z : nI (pRk P k n i) = a
      · refine Or.inr ⟨i, Nat.le_refl _, hi, hk, z, ?_⟩
        simp only [fX0_numberInOrder_L2, pz_at hh hn hi H.1, pz_b, pz_nm, eC]
        rw [if_neg (by rw [H.1]; exact nI_ge hi (by omega)), if_pos (pz_P hh (by omega)), H.2 i hi 0 (by decide), if_pos hk, if_pos z]
      · refine go ?_ (fun _ => z)
        simp only [fX0_numberInOrder_L2, pz_at hh hn hi H.1, pz_b, pz_nm, eC, nI_1]
        rw [if_neg (by rw [H.1]; exact nI_ge hi (by omega)), if_pos (pz_P hh (by omega)), H.2 i hi 0 (by decide), if_pos hk, if_neg z]
    · refine go ?_ (fun y => absurd y hk)
      simp only [fX0_numberInOrder_L2, pz_at hh hn hi H.1, pz_b, pz_nm, nI_1]
      rw [if_neg (by rw [H.1]; exact nI_ge hi (by omega)), if_pos (pz_P hh (by omega)), H.2 i hi 0 (by decide), if_neg hk]
