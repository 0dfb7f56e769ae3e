theorem pH_28 {w : qMem} {T : Nat} {S : pSt} (v : Int32) (hW : pW T S) (H : pH w 0 S) : pH (quw w 228 10 v) 0 S := ph_same hW (fun c _ h2 => by rw [pz_wr, pz_rn (by omega)]) H
-- add
def sAdd (a : Nat) (S : pSt) : pSt := (sN S, sP S, sQ S + 1, upd (sL S) (sQ S) (nI a), sG S)
-- quiet
def pNq (P : Nat → Nat → Int32) (i : Nat) : Nat → Int32 := if P i 0 = 2 ∧ P i 4 = 0 then upd (P i) 3 (P i 3 / 2) else P i
def pDq (P : Nat → Nat → Int32) (i : Nat) : Int32 := if P i 0 = 2 ∧ P i 4 = 0 then P i 3 / 2 else 0
def sQui (S : pSt) : pSt := (sN S, pNq (sP S), sQ S, sL S, sG S)
theorem pNq_W {T : Nat} {P : Nat → Nat → Int32} {i : Nat} (h : pWF T (P i)) : pWF T (pNq P i) := by
  unfold pNq
  split
  · rename_i hz
    obtain ⟨f, m, d, c, t, ⟨b1, b2, b3, b4⟩, h1, h2, h3, h5, h6, h | h | h⟩ := h
    · exact absurd (h.1.symm.trans hz.1) (by decide)
    · obtain ⟨_, hm, hd, e4⟩ := h
      have hd2 : d ≤ 20 := by
        by_cases q : 20 < d
        · rw [e4, if_pos q] at hz; exact absurd hz.2 (by decide)
        · omega
      refine ⟨f, m, d / 2, c, t, ⟨b1, b2, b3, b4⟩, h1, h2, ?_, h5, h6, Or.inr (Or.inl ⟨hz.1, hm, by omega, ?_⟩)⟩
      · rw [pz_u, h3, pt_7 d (by omega)]
      · rw [if_neg (by omega)]; exact hz.2
    · exact absurd (h.1.symm.trans hz.1) (by decide)
  · exact h
theorem pNq_0 (P : Nat → Nat → Int32) (i : Nat) : pNq P i 0 = P i 0 ∧ pNq P i 1 = P i 1 := by
  unfold pNq; split
  · exact ⟨rfl, rfl⟩
  · exact ⟨rfl, rfl⟩
theorem sQui_W {T : Nat} {S : pSt} (H : pW T S) : pW T (sQui S) := by
  obtain ⟨h1, h2, h3, h4, h5, h6⟩ := H
  refine ⟨h1, fun i hi => pNq_W (h2 i hi), h3, h4, h5, fun f hf k hk => ?_⟩
  have e : pCn (sP (sQui S)) k (nI f) (sN S) = pCn (sP S) k (nI f) (sN S) := pCn_eq k (nI f) _ (fun i _ => pNq_0 _ i)
  show pCn (sP (sQui S)) k (nI f) (sN S) ≤ 5
  rw [e]; exact h6 f hf k hk
theorem pc_calm {h n T : Nat} {P : Nat → Nat → Int32} (hh : h < 12) (hn : n ≤ 12) (hW : ∀ i, i < n → pWF T (P i)) : ∀ (d i fuel : Nat) (w : qMem), i + d = n → d < fuel → w (19 * h) 2 = nI n → (∀ j, j < n → pAg (w (19 * h + 2 + j)) (if j < i then pNq P j else P j)) → ∃ w1 : qMem, fX0_calm_L4 h fuel w (pSum (pDq P) i) (nI i) = some (pSum (pDq P) n, w1) ∧ (∀ c, (c < 19 * h + 2 ∨ 19 * h + 14 ≤ c) → w1 c = w c) ∧ ∀ j, j < n → pAg (w1 (19 * h + 2 + j)) (pNq P j)
  | 0, i, fuel + 1, w, e, _, h2, H => by
    have e : i = n := by omega
    subst e
    refine ⟨w, ?_, fun _ _ => rfl, fun j hj => ?_⟩
    · simp only [fX0_calm_L4]
      rw [if_pos (by rw [h2]; exact pz_ge (Nat.le_refl i) (by omega))]
    · have := H j hj
      rw [if_pos hj] at this; exact this
  | d + 1, i, fuel + 1, w, e, hf, h2, H => by
    have hi : i < n := by omega
    have hA : pAg (w (19 * h + 2 + i)) (P i) := by have := H i hi; rw [if_neg (by omega)] at this; exact this
    simp only [fX0_calm_L4, pz_at hh hn hi h2, pz_b, pz_nm]
    rw [if_neg (by rw [h2]; exact nI_ge hi (by omega)), if_pos (pz_P hh (by omega)), hA 0 (by decide), hA 4 (by decide), hA 3 (by decide), nI_1]
    by_cases hz : P i 0 = 2 ∧ P i 4 = 0
    · have eN : pNq P i = upd (P i) 3 (P i 3 / 2) := by unfold pNq; rw [if_pos hz]
      have eD : pSum (pDq P) (i + 1) = pSum (pDq P) i + P i 3 / 2 := by simp only [pSum]; congr 1; unfold pDq; rw [if_pos hz]
      obtain ⟨w1, g1, g2, g3⟩ := pc_calm hh hn hW d (i + 1) fuel (quw w (19 * h + 2 + i) 3 (P i 3 / 2)) (by omega) (by omega) (by rw [pz_wn (by omega)]; exact h2) (pz_stepA H (fun j hj hk => by rw [pz_wr, pz_rn (by omega)]) (by rw [pz_wr, pz_r, eN]; exact hA.up 3 rfl))
      refine ⟨w1, ?_, fun c hc => (g2 c hc).trans (pz_rn (by omega)), g3⟩
      rw [if_pos hz.1, if_pos hz.2, pz_w, ← eD]; exact g1
    · have eN : pNq P i = P i := by unfold pNq; rw [if_neg hz]
      have eD : pSum (pDq P) (i + 1) = pSum (pDq P) i := by
        simp only [pSum]
        have : pDq P i = 0 := by unfold pDq; rw [if_neg hz]
        rw [this, Int32.add_zero]
      obtain ⟨w1, g1, g2, g3⟩ := pc_calm hh hn hW d (i + 1) fuel w (by omega) (by omega) h2 (pz_stepA H (fun _ _ _ => rfl) (by rw [eN]; exact hA))
      refine ⟨w1, ?_, g2, g3⟩
      rw [eD] at g1
      by_cases k0 : P i 0 = 2
      · rw [if_pos k0, if_neg (fun z => hz ⟨k0, z⟩)]; exact g1
      · rw [if_neg k0]; exact g1
