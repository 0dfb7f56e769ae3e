-- best
def pBs (S : pSt) : Nat → Nat
  | 0 => 1
  | i + 1 => if pMa (sN S) (i + 2) (sP S) ≤ pMa (sN S) (pBs S i) (sP S) then pBs S i else i + 2
theorem pBs_le (S : pSt) : ∀ i, 1 ≤ pBs S i ∧ pBs S i ≤ i + 1
  | 0 => ⟨Nat.le_refl _, Nat.le_refl _⟩
  | i + 1 => by
    have := pBs_le S i
    simp only [pBs]; split <;> omega
theorem pc_bs {T : Nat} {S : pSt} (hW : pW T S) : ∀ (d i fuel : Nat) (w : qMem), i + d = 8 → d < fuel → pH w 0 S → ∃ w1 : qMem, fX5_best_L10 fuel w (nI (pBs S i)) (pMa (sN S) (pBs S i) (sP S)) (nI (i + 2)) = some (nI (pBs S 8), w1) ∧ ∀ c, (c < 19 ∨ 38 ≤ c) → w1 c = w c
  | 0, i, fuel + 1, w, e, _, H => by
    have e : i = 8 := by omega
    subst e
    refine ⟨w, ?_, fun _ _ => rfl⟩
    simp only [fX5_best_L10]
    rw [if_pos (by decide)]
  | d + 1, i, fuel + 1, w, e, hf, H => by
    obtain ⟨w5, e5, k5⟩ := pc_mt (a := i + 2) (by omega) hW H
    obtain ⟨w1, g1, g2⟩ := pc_bs hW d (i + 1) fuel w5 (by omega) (by omega) (ph_same hW (fun c _ h2 => k5 c (by omega)) H)
    refine ⟨w1, ?_, fun c hc => (g2 c hc).trans (k5 c hc)⟩
    simp only [fX5_best_L10, e5, pz_b2, pz_nm, nI_1]
    rw [if_neg (show ¬ (9 : Int32) < nI (i + 2) from nI_nlt (a := 9) (b := i + 2) (by omega) (by omega))]
    by_cases z : pMa (sN S) (i + 2) (sP S) ≤ pMa (sN S) (pBs S i) (sP S)
    · have eb : pBs S (i + 1) = pBs S i := if_pos z
      rw [eb] at g1
      rw [if_pos z]; exact g1
    · have eb : pBs S (i + 1) = i + 2 := if_neg z
      rw [eb] at g1
      rw [if_neg z]; exact g1
