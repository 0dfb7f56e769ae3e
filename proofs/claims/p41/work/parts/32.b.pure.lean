-- a word read by class and reference
def pWd (j : Nat) : List Int32 := qtx.getD j []
def pCw (t : Nat → Int32) (L o j : Nat) : Nat := pCm t L o (pWd j)
theorem pt_80 : ∀ j, j < 10 → (pWd j).length ≤ 7 ∧ 3 ≤ (pWd j).length := by decide +kernel
theorem pt_81 : ∀ j, j < 10 → ∀ j', j' < 10 → j ≠ j' → ¬ (∀ i, i < (pWd j).length → (pWd j).getD i 0 = (pWd j').getD i 0) := by decide +kernel
theorem pCw_u {t : Nat → Int32} {L o j j' : Nat} (hj : j < 10) (hj' : j' < 10) (hne : j ≠ j') (h : pCw t L o j = (pWd j).length) : pCw t L o j' < pCw t L o j := by
  refine Classical.byContradiction fun q => pt_81 j hj j' hj' hne fun i hi => ?_
  have a := pCm_at (t := t) (L := L) (pWd j) o i (by unfold pCw at h; omega)
  have b := pCm_at (t := t) (L := L) (pWd j') o i (by unfold pCw at h q; omega)
  exact a.2.symm.trans b.2
theorem pCw_L {t : Nat → Int32} {L o j : Nat} (ho : o ≤ L) : o + pCw t L o j ≤ L := by
  unfold pCw
  by_cases z : pCm t L o (pWd j) = 0
  · omega
  · have := (pCm_at (t := t) (L := L) (pWd j) o (pCm t L o (pWd j) - 1) (by omega)).1
    omega
theorem pCw_mx (t : Nat → Int32) (L o : Nat) : ∀ n, ∃ b, b < n + 1 ∧ ∀ j, j < n + 1 → pCw t L o j ≤ pCw t L o b
  | 0 => ⟨0, by omega, fun j hj => by rw [show j = 0 by omega]; exact Nat.le_refl _⟩
  | n + 1 => by
    obtain ⟨b, hb, h⟩ := pCw_mx t L o n
    by_cases z : pCw t L o (n + 1) ≤ pCw t L o b
    · refine ⟨b, by omega, fun j hj => ?_⟩
      by_cases y : j = n + 1
      · rw [y]; exact z
      · exact h j (by omega)
    · refine ⟨n + 1, by omega, fun j hj => ?_⟩
      by_cases y : j = n + 1
      · rw [y]; exact Nat.le_refl _
      · have := h j (by omega); omega
theorem pc_nm (w : qMem) : ∀ x, x < 10 → fX4_nameOf w (nI (x + 1)) = some x := by
  intro x hx
  rcases x with _ | _ | _ | _ | _ | _ | _ | _ | _ | _ | x
  · rfl
  · rfl
  · rfl
  · rfl
  · rfl
  · rfl
  · rfl
  · rfl
  · rfl
  · rfl
  · omega
theorem pc_rw {w : qMem} {t : Nat → Int32} {L o : Nat} (hL : L ≤ 60) (ho : o ≤ L) (H : pCs w t L o) : ∀ (d x fuel M : Nat), x + d = 10 → d < fuel → M ≤ 60 →
    (∃ j, x ≤ j ∧ j < 10 ∧ pCw t L o j = (pWd j).length ∧ ∃ w1 : qMem, fX4_readWord_L4 fuel w (nI M) (nI (x + 1)) = some (nI (j + 1), w1) ∧ pCf w w1 (o + pCw t L o j)) ∨
    ((∀ j, x ≤ j → j < 10 → pCw t L o j ≠ (pWd j).length) ∧ ∃ M' : Nat, M ≤ M' ∧ (∀ j, x ≤ j → j < 10 → pCw t L o j ≤ M') ∧ (M' = M ∨ ∃ j, x ≤ j ∧ j < 10 ∧ pCw t L o j = M') ∧ ∃ w1 : qMem, fX4_readWord_L4 fuel w (nI M) (nI (x + 1)) = some (0, w1) ∧ pCf w w1 (o + M'))
  | 0, x, fuel + 1, M, e, _, _ => by
    have e : x = 10 := by omega
    subst e
    refine Or.inr ⟨fun j h1 h2 => absurd h2 (by omega), M, Nat.le_refl _, fun j h1 h2 => absurd h2 (by omega), Or.inl rfl, _, ?_, pCf.mk6 w (o + M)⟩
    simp only [fX4_readWord_L4, pz_nm]
    rw [if_pos (show (10 : Int32) < nI (10 + 1) by decide), H.2.1, nI_add]
  | d + 1, x, fuel + 1, M, e, hf, hM => by
    have hx : x < 10 := by omega
    obtain ⟨l1, l2⟩ := pt_80 x hx
    have hc := pCm_le (pWd x) o (t := t) (L := L)
    have eA : fX4_countAlike w (qtx.getD x []) = some (nI (pCw t L o x)) := pc_alike hL ho H (ts := pWd x) (by omega)
    have hcw : pCw t L o x ≤ (pWd x).length := hc
    have st : fX4_readWord_L4 (fuel + 1) w (nI M) (nI (x + 1)) = (if nI (pCw t L o x) = nI (pWd x).length then some (nI (x + 1), quw w 231 6 (nI (o + pCw t L o x))) else if nI (pCw t L o x) ≤ nI M then fX4_readWord_L4 fuel w (nI M) (nI (x + 1 + 1)) else fX4_readWord_L4 fuel w (nI (pCw t L o x)) (nI (x + 1 + 1))) := by
      simp only [fX4_readWord_L4, pc_nm w x hx, pz_b, pz_nm, nI_1]
      rw [if_neg (show ¬ (10 : Int32) < nI (x + 1) from nI_nlt (a := 10) (b := x + 1) (by omega) (by omega)), if_pos (show x < 20 by omega), eA, pz_b, H.2.1, nI_add]
      rfl
    rw [st]
    by_cases z : pCw t L o x = (pWd x).length
    · exact Or.inl ⟨x, Nat.le_refl _, hx, z, _, by rw [if_pos (by rw [z])], pCf.mk6 w (o + pCw t L o x)⟩
    · rw [if_neg (fun q => z ((nI_eq (by omega) (by omega)).mp q))]
      have go : ∀ M1, M1 ≤ 60 → M ≤ M1 → pCw t L o x ≤ M1 → (M1 = M ∨ M1 = pCw t L o x) → (∃ j, x ≤ j ∧ j < 10 ∧ pCw t L o j = (pWd j).length ∧ ∃ w1 : qMem, fX4_readWord_L4 fuel w (nI M1) (nI (x + 1 + 1)) = some (nI (j + 1), w1) ∧ pCf w w1 (o + pCw t L o j)) ∨ ((∀ j, x ≤ j → j < 10 → pCw t L o j ≠ (pWd j).length) ∧ ∃ M' : Nat, M ≤ M' ∧ (∀ j, x ≤ j → j < 10 → pCw t L o j ≤ M') ∧ (M' = M ∨ ∃ j, x ≤ j ∧ j < 10 ∧ pCw t L o j = M') ∧ ∃ w1 : qMem, fX4_readWord_L4 fuel w (nI M1) (nI (x + 1 + 1)) = some (0, w1) ∧ pCf w w1 (o + M')) := fun M1 h60 h1 h2 h3 => by
        rcases pc_rw hL ho H d (x + 1) fuel M1 (by omega) (by omega) h60 with ⟨j, g1, g2, g3, g4⟩ | ⟨g1, M', g2, g3, g4, g5⟩
        · exact Or.inl ⟨j, by omega, g2, g3, g4⟩
        · refine Or.inr ⟨fun j a b => ?_, M', by omega, fun j a b => ?_, ?_, g5⟩
          · by_cases y : j = x
            · rw [y]; exact z
            · exact g1 j (by omega) b
          · by_cases y : j = x
            · rw [y]; omega
            · exact g3 j (by omega) b
          · rcases g4 with g4 | ⟨j, a, b, c⟩
            · rcases h3 with h3 | h3
              · exact Or.inl (g4.trans h3)
              · exact Or.inr ⟨x, Nat.le_refl _, hx, by omega⟩
            · exact Or.inr ⟨j, by omega, b, c⟩
      by_cases y : pCw t L o x ≤ M
      · rw [if_pos (nI_le y (by omega))]; exact go M hM (Nat.le_refl _) y (Or.inl rfl)
      · rw [if_neg (nI_ge (by omega) (by omega))]; exact go (pCw t L o x) (by omega) (by omega) (Nat.le_refl _) (Or.inr rfl)
-- the reference looks for the word that is most alike
