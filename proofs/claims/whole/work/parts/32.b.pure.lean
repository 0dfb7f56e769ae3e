-- a word read by class and reference
def pWd (j : Nat) : List Int32 := qtx.getD j []
def pCw (t : Nat → Int32) (L o j : Nat) : Nat := pCm t L o (pWd j)
theorem pt_80 : ∀ j, j < 10 → (pWd j).length ≤ 7 ∧ 3 ≤ (pWd j).length := by decide +kernel
theorem pt_81 : ∀ j, j < 10 → ∀ j', j' < 10 → j ≠ j' → ¬ (∀ i, i < (pWd j).length → (pWd j).getD i 0 = (pWd j').getD i 0) := by decide +kernel
theorem pCw_u {t : Nat → Int32} {L o j j' : Nat} (hj : j < 10) (hj' : j' < 10) (hne : j ≠ j') (h : pCw t L o j = (pWd j).length) : pCw t L o j' < pCw t L o j := by
  refine Classical.byContradiction fun q => pt_81 j hj j' hj' hne fun i hi => ?_
  have a := pCm_at (t := t) (L := L) (pWd j) o i (by unfold pCw at h; omega)
  have b := pCm_at (t := t) (L := L) (pWd j') o i (by unfold pCw at h q; omega)
  exact a.2.symm.trans b.2
theorem pCw_L {t : Nat → Int32} {L o j : Nat} (ho : o ≤ L) : o + pCw t L o j ≤ L := by
  unfold pCw
  by_cases z : pCm t L o (pWd j) = 0
  · omega
  · have := (pCm_at (t := t) (L := L) (pWd j) o (pCm t L o (pWd j) - 1) (by omega)).1
    omega
theorem pCw_mx (t : Nat → Int32) (L o : Nat) : ∀ n, ∃ b, b < n + 1 ∧ ∀ j, j < n + 1 → pCw t L o j ≤ pCw t L o b
  | 0 => ⟨0, by omega, fun j hj => by rw [show j = 0 by omega]; exact Nat.le_refl _⟩
  | n + 1 => by
    obtain ⟨b, hb, h⟩ := pCw_mx t L o n
    by_cases z : pCw t L o (n + 1) ≤ pCw t L o b
    · refine ⟨b, by omega, fun j hj => ?_⟩
      by_cases y : j = n + 1
      · rw [y]; exact z
      · exact h j (by omega)
    · refine ⟨n + 1, by omega, fun j hj => ?_⟩
      by_cases y : j = n + 1
      · rw [y]; exact Nat.le_refl _
      · have := h j (by omega); omega
theorem pc_nm (w : qMem) : ∀ x, x < 10 → fX4_nameOf w (nI (x + 1)) = some x := by
  intro x hx
  rcases x with _ | _ | _ | _ | _ | _ | _ | _ | _ | _ | x
  · rfl
  · rfl
  · rfl
  · rfl
  · rfl
  · rfl
  · rfl
  · rfl
  · rfl
  · rfl
  · omega
theorem pc_rw {w : qMem} {t : Nat → Int32} {L o : Nat} (hL : L ≤ 60) (ho : o ≤ L) (H : pCs w t L o) : ∀ (d x fuel M : Nat), x + d = 10 → d < fuel → M ≤ 60 →
    (∃ j, x ≤ j ∧ j < 10 ∧ pCw t L o j = (pWd j).length ∧ ∃ w1 : qMem, fX4_readWord_L4 fuel w (nI M) (nI (x + 1)) = some (nI (j + 1), w1) ∧ pCf w w1 (o + pCw t L o j)) ∨
    ((∀ j, x ≤ j → j < 10 → pCw t L o j ≠ (pWd j).length) ∧ ∃ M' : Nat, M ≤ M' ∧ (∀ j, x ≤ j → j < 10 → pCw t L o j ≤ M') ∧ (M' = M ∨ ∃ j, x ≤ j ∧ j < 10 ∧ pCw t L o j = M') ∧ ∃ w1 : qMem, fX4_readWord_L4 fuel w (nI M) (nI (x + 1)) = some (0, w1) ∧ pCf w w1 (o + M'))
  | 0, x, fuel + 1, M, e, _, _ => by
    have e : x = 10 := by omega
    subst e
    refine Or.inr ⟨fun j h1 h2 => absurd h2 (by omega), M, Nat.le_refl _, fun j h1 h2 => absurd h2 (by omega), Or.inl rfl, _, ?_, pCf.mk6 w (o + M)⟩
    simp only [fX4_readWord_L4, pz_nm]
    rw [if_pos (show (10 : Int32) < nI (10 + 1) by decide), H.2.1, nI_add]
  | d + 1, x, fuel + 1, M, e, hf, hM => by
    have hx : x < 10 := by omega
    obtain ⟨l1, l2⟩ := pt_80 x hx
    have hc := pCm_le (pWd x) o (t := t) (L := L)
    have eA : fX4_countAlike w (qtx.getD x []) = some (nI (pCw t L o x)) := pc_alike hL ho H (ts := pWd x) (by omega)
    have hcw : pCw t L o x ≤ (pWd x).length := hc
    have st : fX4_readWord_L4 (fuel + 1) w (nI M) (nI (x + 1)) = (if nI (pCw t L o x) = nI (pWd x).length then some (nI (x + 1), quw w 231 6 (nI (o + pCw t L o x))) else if nI (pCw t L o x) ≤ nI M then fX4_readWord_L4 fuel w (nI M) (nI (x + 1 + 1)) else fX4_readWord_L4 fuel w (nI (pCw t L o x)) (nI (x + 1 + 1))) := by
      simp only [fX4_readWord_L4, pc_nm w x hx, pz_b, pz_nm, nI_1]
      rw [if_neg (show ¬ (10 : Int32) < nI (x + 1) from nI_nlt (a := 10) (b := x + 1) (by omega) (by omega)), if_pos (show x < 14 by omega), eA, pz_b, H.2.1, nI_add]
      rfl
    rw [st]
    by_cases z : pCw t L o x = (pWd x).length
    · exact Or.inl ⟨x, Nat.le_refl _, hx, z, _, by rw [if_pos (by rw [z])], pCf.mk6 w (o + pCw t L o x)⟩
    · rw [if_neg (fun q => z ((nI_eq (by omega) (by omega)).mp q))]
      have go : ∀ M1, M1 ≤ 60 → M ≤ M1 → pCw t L o x ≤ M1 → (M1 = M ∨ M1 = pCw t L o x) → (∃ j, x ≤ j ∧ j < 10 ∧ pCw t L o j = (pWd j).length ∧ ∃ w1 : qMem, fX4_readWord_L4 fuel w (nI M1) (nI (x + 1 + 1)) = some (nI (j + 1), w1) ∧ pCf w w1 (o + pCw t L o j)) ∨ ((∀ j, x ≤ j → j < 10 → pCw t L o j ≠ (pWd j).length) ∧ ∃ M' : Nat, M ≤ M' ∧ (∀ j, x ≤ j → j < 10 → pCw t L o j ≤ M') ∧ (M' = M ∨ ∃ j, x ≤ j ∧ j < 10 ∧ pCw t L o j = M') ∧ ∃ w1 : qMem, fX4_readWord_L4 fuel w (nI M1) (nI (x + 1 + 1)) = some (0, w1) ∧ pCf w w1 (o + M')) := fun M1 h60 h1 h2 h3 => by
        rcases pc_rw hL ho H d (x + 1) fuel M1 (by omega) (by omega) h60 with ⟨j, g1, g2, g3, g4⟩ | ⟨g1, M', g2, g3, g4, g5⟩
        · exact Or.inl ⟨j, by omega, g2, g3, g4⟩
        · refine Or.inr ⟨fun j a b => ?_, M', by omega, fun j a b => ?_, ?_, g5⟩
          · by_cases y : j = x
            · rw [y]; exact z
            · exact g1 j (by omega) b
          · by_cases y : j = x
            · rw [y]; omega
            · exact g3 j (by omega) b
          · rcases g4 with g4 | ⟨j, a, b, c⟩
            · rcases h3 with h3 | h3
              · exact Or.inl (g4.trans h3)
              · exact Or.inr ⟨x, Nat.le_refl _, hx, by omega⟩
            · exact Or.inr ⟨j, by omega, b, c⟩
      by_cases y : pCw t L o x ≤ M
      · rw [if_pos (nI_le y (by omega))]; exact go M hM (Nat.le_refl _) y (Or.inl rfl)
      · rw [if_neg (nI_ge (by omega) (by omega))]; exact go (pCw t L o x) (by omega) (by omega) (Nat.le_refl _) (Or.inr rfl)
-- the reference looks for the word that is most alike
def pPs : Nat → Nat
  | 0 => 0
  | x + 1 => pPs x + (pWd x).length + 1
theorem pt_82 : ∀ x, x < 10 → qidx (qtx.getD 13 []) (nI (pPs x)) = some (nI (pPs x + (pWd x).length)) ∧ qsub (qtx.getD 13 []) (nI (pPs x)) (nI (pPs x + (pWd x).length)) = some (pWd x) ∧ ¬ Int32.ofNat (qtx.getD 13 []).length ≤ nI (pPs x) := by decide +kernel
theorem pt_83 : Int32.ofNat (qtx.getD 13 []).length ≤ nI (pPs 10) := by decide +kernel
theorem pr_wd {w : qMem} {t : Nat → Int32} {L o : Nat} {e0 : Int32} (hL : L ≤ 60) (ho : o ≤ L) (H : pRs w t L o e0) : ∀ (d x fuel b : Nat), x + d = 10 → d < fuel → b < x → (∀ j, j < x → pCw t L o j ≤ pCw t L o b) → ∃ b', b' < 10 ∧ (∀ j, j < 10 → pCw t L o j ≤ pCw t L o b') ∧ fX6_word_L10 fuel w (nI b) (nI (pPs x)) (pWd b) (nI x) = (qbd (fX6_skip w (pWd b')) fun (w3 : qMem) => some (nI b', w3))
  | 0, x, fuel + 1, b, e, _, hb, h => by
    have e : x = 10 := by omega
    subst e
    refine ⟨b, hb, h, ?_⟩
    simp only [fX6_word_L10]
    rw [if_pos pt_83]
  | d + 1, x, fuel + 1, b, e, hf, hb, h => by
    have hx : x < 10 := by omega
    obtain ⟨q1, q2, q3⟩ := pt_82 x hx
    have c1 : fX6_common w (pWd x) = some (nI (pCw t L o x)) := pr_alike hL ho H (by have := pt_80 x hx; omega)
    have c2 : fX6_common w (pWd b) = some (nI (pCw t L o b)) := pr_alike hL ho H (by have := pt_80 b (by omega); omega)
    have l1 := pCw_L (t := t) (j := x) ho
    have l2 := pCw_L (t := t) (j := b) ho
    have st : fX6_word_L10 (fuel + 1) w (nI b) (nI (pPs x)) (pWd b) (nI x) = (if nI (pCw t L o x) ≤ nI (pCw t L o b) then fX6_word_L10 fuel w (nI b) (nI (pPs (x + 1))) (pWd b) (nI (x + 1)) else fX6_word_L10 fuel w (nI x) (nI (pPs (x + 1))) (pWd x) (nI (x + 1))) := by
      simp only [fX6_word_L10, q1, q2, pz_b, pz_nm, nI_1, c1, c2]
      rw [if_neg q3, if_neg (nI_ne0 (by omega) (by omega))]
      rfl
    rw [st]
    by_cases z : pCw t L o x ≤ pCw t L o b
    · rw [if_pos (nI_le z (by omega))]
      exact pr_wd hL ho H d (x + 1) fuel b (by omega) (by omega) (by omega) (fun j hj => by
        by_cases y : j = x
        · rw [y]; exact z
        · exact h j (by omega))
    · rw [if_neg (nI_ge (by omega) (by omega))]
      exact pr_wd hL ho H d (x + 1) fuel x (by omega) (by omega) (by omega) (fun j hj => by
        by_cases y : j = x
        · rw [y]; exact Nat.le_refl _
        · have := h j (by omega); omega)
theorem pr_word {w : qMem} {t : Nat → Int32} {L o : Nat} (hL : L ≤ 60) (ho : o ≤ L) (H : pRs w t L o 0) : ∃ b', b' < 10 ∧ (∀ j, j < 10 → pCw t L o j ≤ pCw t L o b') ∧ ∃ w1 : qMem, fX6_word w = some (nI b', w1) ∧ pRf w w1 (o + pCw t L o b') (if pCw t L o b' = (pWd b').length then 0 else 1) := by
  obtain ⟨b', h1, h2, e⟩ := pr_wd hL ho H 9 1 10 0 (by omega) (by omega) (by omega) (fun j hj => by rw [show j = 0 by omega]; exact Nat.le_refl _)
  obtain ⟨w1, e1, f1⟩ := pr_sk hL ho H (ts := pWd b') (by have := pt_80 b' h1; omega)
  refine ⟨b', h1, h2, w1, ?_, f1⟩
  rw [e1, pz_b] at e
  obtain ⟨q1, q2, q3⟩ := pt_82 0 (by decide)
  have st : fX6_word_L10 (10 + 1) w 0 (nI (pPs 0)) (qtx.getD 11 []) 0 = fX6_word_L10 10 w (nI 0) (nI (pPs 1)) (pWd 0) (nI 1) := by
    rw [fX6_word_L10, if_neg q3, q1, pz_b, q2, pz_b, if_pos rfl, pz_nm, pz_nm, nI_1]
    rfl
  exact st.trans e
/-- a word, by both: found (its number, the place behind it), or not (the place of the error) -/
theorem pb_word {t : Nat → Int32} {L o : Nat} (hL : L ≤ 60) (ho : o ≤ L) : (∃ j, j < 10 ∧ o + (pWd j).length ≤ L ∧ (∀ w : qMem, pCs w t L o → ∃ w1 : qMem, fX4_readWord w = some (nI (j + 1), w1) ∧ pCf w w1 (o + (pWd j).length)) ∧ ∀ w : qMem, pRs w t L o 0 → ∃ w1 : qMem, fX6_word w = some (nI j, w1) ∧ pRf w w1 (o + (pWd j).length) 0) ∨ ∃ o', o ≤ o' ∧ o' ≤ L ∧ (∀ w : qMem, pCs w t L o → ∃ w1 : qMem, fX4_readWord w = some (0, w1) ∧ pCf w w1 o') ∧ ∀ w : qMem, pRs w t L o 0 → ∃ (r : Int32) (w1 : qMem), fX6_word w = some (r, w1) ∧ pRf w w1 o' 1 := by
  by_cases hh : ∃ j, j < 10 ∧ pCw t L o j = (pWd j).length
  · obtain ⟨j, hj, hc⟩ := hh
    have hl := pCw_L (t := t) (j := j) ho
    refine Or.inl ⟨j, hj, by omega, fun w H => ?_, fun w H => ?_⟩
    · rcases pc_rw hL ho H 10 0 100 0 (by omega) (by omega) (by omega) with ⟨j', _, g2, g3, w1, g4, g5⟩ | ⟨g1, _⟩
      · have ej : j' = j := Classical.byContradiction fun q => by
          have a := pCw_u hj g2 (fun y => q y.symm) hc
          have b := pCw_u g2 hj q g3
          omega
        subst ej
        exact ⟨w1, g4, by rw [← hc]; exact g5⟩
      · exact absurd hc (g1 j (by omega) hj)
    · obtain ⟨b', h1, h2, w1, e1, f1⟩ := pr_word hL ho H
      have ej : b' = j := Classical.byContradiction fun q => by
        have a := pCw_u hj h1 (fun y => q y.symm) hc
        have b := h2 j hj
        omega
      subst ej
      rw [if_pos hc, hc] at f1
      exact ⟨w1, e1, f1⟩
  · obtain ⟨b, hb, hm⟩ := pCw_mx t L o 9
    have hl := pCw_L (t := t) (j := b) ho
    refine Or.inr ⟨o + pCw t L o b, by omega, hl, fun w H => ?_, fun w H => ?_⟩
    · rcases pc_rw hL ho H 10 0 100 0 (by omega) (by omega) (by omega) with ⟨j', _, g2, g3, _⟩ | ⟨g1, M', g2, g3, g4, w1, g5, g6⟩
      · exact absurd ⟨j', g2, g3⟩ hh
      · have eM : M' = pCw t L o b := by
          have a := g3 b (by omega) hb
          rcases g4 with g4 | ⟨j, _, q2, q3⟩
          · omega
          · have := hm j q2; omega
        rw [eM] at g6
        exact ⟨w1, g5, g6⟩
    · obtain ⟨b', h1, h2, w1, e1, f1⟩ := pr_word hL ho H
      have eb : pCw t L o b' = pCw t L o b := by
        have x := h2 b hb
        have y := hm b' h1
        omega
      rw [if_neg (fun q => hh ⟨b', h1, q⟩), eb] at f1
      exact ⟨_, w1, e1, f1⟩
