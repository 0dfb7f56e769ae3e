-- take
def pRm (P : Nat → Nat → Int32) (i : Nat) : Nat → Nat → Int32 := fun j => if j < i then P j else P (j + 1)
def sTak (i : Nat) (S : pSt) : pSt := (sN S - 1, pRm (sP S) i, sQ S, sL S, sG S)
theorem pRm_l (P : Nat → Nat → Int32) {i j : Nat} (h : j < i) : pRm P i j = P j := if_pos h
theorem pRm_r (P : Nat → Nat → Int32) {i j : Nat} (h : i ≤ j) : pRm P i j = P (j + 1) := if_neg (by omega)
theorem pRm_c (P : Nat → Nat → Int32) (k f : Int32) (i : Nat) : ∀ j, pCn (pRm P i) k f j ≤ pCn P k f (j + 1) ∧ (j ≤ i → pCn (pRm P i) k f j = pCn P k f j)
  | 0 => ⟨Nat.zero_le _, fun _ => rfl⟩
  | j + 1 => by
    obtain ⟨h1, h2⟩ := pRm_c P k f i j
    by_cases q : j < i
    · have e : pCn (pRm P i) k f (j + 1) = pCn P k f (j + 1) := by
        show pCn (pRm P i) k f j + _ = pCn P k f j + _
        rw [h2 (by omega), pRm_l P q]
      refine ⟨?_, fun _ => e⟩
      rw [e]
      show _ ≤ pCn P k f (j + 1) + _
      omega
    · refine ⟨?_, fun z => absurd z (by omega)⟩
      show pCn (pRm P i) k f j + _ ≤ pCn P k f (j + 1) + _
      rw [pRm_r P (by omega)]
      omega
theorem sTak_W {T i : Nat} {S : pSt} (hi : i < sN S) (H : pW T S) : pW T (sTak i S) := by
  obtain ⟨h1, h2, h3, h4, h5, h6⟩ := H
  refine ⟨by show sN S - 1 ≤ 12; omega, fun j hj => ?_, h3, h4, h5, fun f hf k hk => ?_⟩
  · have hj' : j < sN S - 1 := hj
    show pWF T (pRm (sP S) i j)
    by_cases q : j < i
    · rw [pRm_l _ q]; exact h2 j (by omega)
    · rw [pRm_r _ (by omega)]; exact h2 (j + 1) (by omega)
  · show pCn (pRm (sP S) i) k (nI f) (sN S - 1) ≤ 5
    have := (pRm_c (sP S) k (nI f) i (sN S - 1)).1
    rw [show sN S - 1 + 1 = sN S by omega] at this
    exact Nat.le_trans this (h6 f hf k hk)
theorem pc_rm {n T i : Nat} {P : Nat → Nat → Int32} (hn : n ≤ 12) (hi : i < n) (hW : ∀ i, i < n → pWF T (P i)) : ∀ (d m fuel : Nat) (w : qMem), m + d + 1 = n → d < fuel → i ≤ m → w 0 2 = nI n → (∀ j, j < n → pAg (w (2 + j)) (if j < m then pRm P i j else P j)) → ∃ w1 : qMem, fX0_removeProp_L2 0 fuel w (nI m) = some (nI (n - 1), quw w1 0 2 (nI (n - 1))) ∧ (∀ c, (c < 2 ∨ 14 ≤ c) → w1 c = w c) ∧ ∀ j, j < n - 1 → pAg (w1 (2 + j)) (pRm P i j)
  | 0, m, fuel + 1, w, e, _, hm, h2, H => by
    have e1 : m = n - 1 := by omega
    subst e1
    have en : nI n - 1 = nI (n - 1) := by
      have := nI_pred (n - 1)
      rw [show n - 1 + 1 = n by omega] at this; exact this
    refine ⟨w, ?_, fun _ _ => rfl, fun j hj => ?_⟩
    · have h2' : w (19 * 0) 2 = nI n := h2
      simp only [fX0_removeProp_L2, pz_nm]
      rw [h2', en, if_pos (pz_ge (Nat.le_refl _) (by omega)), pz_w]
    · have := H j (by omega)
      rw [if_pos hj] at this; exact this
  | d + 1, m, fuel + 1, w, e, hf, hm, h2, H => by
    have h2' : w (19 * 0) 2 = nI n := h2
    have en : nI n - 1 = nI (n - 1) := by
      have := nI_pred (n - 1)
      rw [show n - 1 + 1 = n by omega] at this; exact this
    have hA : pAg (w (2 + (m + 1))) (P (m + 1)) := by have := H (m + 1) (by omega); rw [if_neg (by omega)] at this; exact this
    obtain ⟨g, e1, a1⟩ := pc_pc (w := w) (c := 2 + m) (c1 := 2 + (m + 1)) (by omega) ((hW (m + 1) (by omega)).ag hA.sy).b4
    obtain ⟨w1, g1, g2, g3⟩ := pc_rm hn hi hW d (m + 1) fuel (qur w (2 + m) g) (by omega) (by omega) (by omega) (by rw [pz_rn (by omega)]; exact h2) (pz_stepA H (fun j hj hk => pz_rn (by omega)) (by rw [pz_r, pRm_r _ hm]; exact a1.tr hA))
    refine ⟨w1, ?_, fun c hc => (g2 c hc).trans (pz_rn (by omega)), g3⟩
    have x0 : 19 * 0 + 2 + m = 2 + m := by omega
    have x1 : 19 * 0 + 2 + (m + 1) = 2 + (m + 1) := by omega
    simp only [fX0_removeProp_L2, nI_1, pz_at (h := 0) (by decide) hn (show m < n by omega) h2', pz_at (h := 0) (by decide) hn (show m + 1 < n by omega) h2', pz_b, pz_nm]
    rw [h2', en, if_neg (nI_ge (by omega) (by omega)), if_pos (pz_P (by decide) (by omega)), if_pos (pz_P (by decide) (by omega)), x0, x1, e1, pz_b]
    exact g1
