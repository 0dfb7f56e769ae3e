theorem pr_hd {T : Nat} {p : Nat → Int32} (hp : pWF T p) : qin (p 0 - 1) (qtx.getD 10 []).length = true ∧ (qtx.getD 10 []).getD (p 0 - 1).toNatClampNeg 0 = pLx p ∧ pC1 (pLx p) := by
  unfold pLx
  rcases hp.k with h | h | h
  · rw [h]; exact ⟨by decide +kernel, by decide +kernel, 99, by omega, rfl⟩
  · rw [h]; exact ⟨by decide +kernel, by decide +kernel, 108, by omega, rfl⟩
  · rw [h]; exact ⟨by decide +kernel, by decide +kernel, 107, by omega, rfl⟩
-- the programme's line
def pPl (L : Nat → Int32) : Nat → List Int32
  | 0 => []
  | i + 1 => pPl L i ++ pDg (L i).toNatClampNeg
theorem pPl_n {L : Nat → Int32} : ∀ i, (∀ j, j < i → ∃ a, 1 ≤ a ∧ a ≤ 9 ∧ L j = nI a) → (pPl L i).length = i
  | 0, _ => rfl
  | i + 1, h => by
    obtain ⟨a, a1, a9, e⟩ := h i (by omega)
    simp only [pPl]
    rw [e, nI_clamp (by omega), pDg_1 a9, pl_n, pPl_n i (fun j hj => h j (by omega))]
theorem pc_pl {T : Nat} {S : pSt} (hW : pW T S) : ∀ (k i fuel : Nat) (w : qMem), i + k = sQ S → k < fuel → pH w 0 S → pWc w (pPl (sL S) i) → ∃ w1 : qMem, fX2_writeProgramme_L7 0 fuel w (nI i) = some w1 ∧ pWc w1 (pPl (sL S) (sQ S)) ∧ pFc w w1
  | 0, i, fuel + 1, w, e, _, H, h => by
    have e : i = sQ S := by omega
    subst e
    refine ⟨w, ?_, h, pFc.rf w⟩
    have h4 : w (19 * 0) 4 = nI (sQ S) := H.2.1
    have := hW.2.2.1
    simp only [fX2_writeProgramme_L7]
    rw [if_pos (by rw [h4]; exact pz_ge (Nat.le_refl _) (by omega))]
  | k + 1, i, fuel + 1, w, e, hf, H, h => by
    have hi : i < sQ S := by omega
    have hq := hW.2.2.1
    have h4 : w (19 * 0) 4 = nI (sQ S) := H.2.1
    obtain ⟨a, a1, a9, ea⟩ := hW.2.2.2.1 i hi
    have n1 := pPl_n (L := sL S) i (fun j hj => hW.2.2.2.1 j (by omega))
    have e15 : w 15 i = nI a := (H.2.2.1 i hi).trans ea
    have eP : fX0_plannedAt w 0 (nI i) = some (nI a) := by
      unfold fX0_plannedAt
      rw [if_neg (nI_pos (by omega)), if_neg (show ¬ (8 : Int32) ≤ nI i from nI_ge (b := 8) (by omega) (by omega)), if_pos (pz_qin (by omega) (by omega)), pz_nI (by omega)]
      exact congrArg some e15
    obtain ⟨w1, e1, h1, f1⟩ := pc_pn (n := a) h (by omega) (by omega)
    have h1 : pWc w1 (pPl (sL S) (i + 1)) := by simp only [pPl]; rw [ea, nI_clamp (by omega)]; exact h1
    obtain ⟨w2, e2, h2, f2⟩ := pc_pl hW k (i + 1) fuel w1 (by omega) (by omega) (ph_same hW (fun c c1 c2 => f1 c (by omega) (by omega)) H) h1
    refine ⟨w2, ?_, h2, f1.tr f2⟩
    simp only [fX2_writeProgramme_L7, eP, pz_b, e1, pz_nm, nI_1]
    rw [if_neg (by rw [h4]; exact nI_ge hi (by omega))]
    exact e2
