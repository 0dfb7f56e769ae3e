theorem ph_cg {w w' : qMem} {h h' T : Nat} {S : pSt} (hW : pW T S) (e : ∀ i, i < 19 → w' (19 * h' + i) = w (19 * h + i)) (H : pH w h S) : pH w' h' S := by
  obtain ⟨hn, hP, hq, hL, hG, _⟩ := hW
  obtain ⟨⟨H1, H2⟩, H3, H4, H5⟩ := H
  have e0 : w' (19 * h') = w (19 * h) := e 0 (by decide)
  refine ⟨⟨by rw [e0]; exact H1, fun i hi k hk => ?_⟩, by rw [e0]; exact H3, fun j hj => by rw [e 15 (by decide)]; exact H4 j hj, fun k hk => by rw [e0]; exact H5 k hk⟩
  have := e (2 + i) (by omega)
  rw [show 19 * h' + 2 + i = 19 * h' + (2 + i) by omega, this, show 19 * h + (2 + i) = 19 * h + 2 + i by omega]
  exact H2 i hi k hk
theorem ph_same {w w' : qMem} {h T : Nat} {S : pSt} (hW : pW T S) (e : ∀ c, 19 * h ≤ c → c < 19 * h + 19 → w' c = w c) (H : pH w h S) : pH w' h S := ph_cg hW (fun i hi => e _ (by omega) (by omega)) H
theorem pc_pc {w : qMem} {c c1 : Nat} (hc : c ≠ c1) (h4 : w c1 4 = 0 ∨ w c1 4 = 1) : ∃ g : Nat → Int32, fX3_copyFrom w c c1 = some (qur w c g) ∧ pAg g (w c1) := by
  unfold fX3_copyFrom
  have n1 : c1 ≠ c := fun q => hc q.symm
  simp only [pz_nm, pz_wn n1]
  rw [if_pos (pz_B h4)]
  simp only [pz_wr (w := w), pz_qq]
  refine ⟨_, rfl, fun k hk => ?_⟩
  rcases k with _ | _ | _ | _ | _ | _ | _ | k
  · simp [upd]
  · simp [upd]
  · simp [upd]
  · simp [upd]
  · simp [upd]
  · simp [upd]
  · simp [upd]
  · omega
theorem pc_cf1 {h h1 n T : Nat} {P : Nat → Nat → Int32} (hh : h < 12) (hh1 : h1 < 12) (hne : h ≠ h1) (hn : n ≤ 12) (hW : ∀ i, i < n → pWF T (P i)) : ∀ (d i fuel : Nat) (w : qMem), i + d = n → d < fuel → w (19 * h) 2 = nI n → pHC w h1 n P → (∀ j, j < i → pAg (w (19 * h + 2 + j)) (P j)) → ∃ w1 : qMem, fX0_copyFrom_L10 h h1 fuel w (nI i) = fX0_copyFrom_L47 h h1 100 (quw w1 (19 * h) 4 (w1 (19 * h1) 4)) 0 ∧ (∀ c, (c < 19 * h + 2 ∨ 19 * h + 14 ≤ c) → w1 c = w c) ∧ ∀ j, j < n → pAg (w1 (19 * h + 2 + j)) (P j)
  | 0, i, fuel + 1, w, e, _, h2, H, hA => by
    have e : i = n := by omega
    subst e
    refine ⟨w, ?_, fun _ _ => rfl, hA⟩
    simp only [fX0_copyFrom_L10, pz_nm]
    rw [if_pos (by rw [h2]; exact pz_ge (Nat.le_refl i) (by omega))]
  | d + 1, i, fuel + 1, w, e, hf, h2, H, hA => by
    have hi : i < n := by omega
    have h4 : w (19 * h1 + 2 + i) 4 = 0 ∨ w (19 * h1 + 2 + i) 4 = 1 := ((hW i hi).ag (H.2 i hi).sy).b4
    obtain ⟨g, e1, a1⟩ := pc_pc (w := w) (c := 19 * h + 2 + i) (c1 := 19 * h1 + 2 + i) (by omega) h4
    obtain ⟨w1, g1, g2, g3⟩ := pc_cf1 hh hh1 hne hn hW d (i + 1) fuel (qur w (19 * h + 2 + i) g) (by omega) (by omega) (by rw [pz_rn (by omega)]; exact h2) ⟨by rw [pz_rn (by omega)]; exact H.1, fun j hj => by rw [pz_rn (by omega)]; exact H.2 j hj⟩ (fun j hj => by
      by_cases q : j = i
      · subst q; rw [pz_r]; exact a1.tr (H.2 j hi)
      · rw [pz_rn (by omega)]; exact hA j (by omega))
    refine ⟨w1, ?_, fun c hc => (g2 c hc).trans (pz_rn (by omega)), g3⟩
    simp only [fX0_copyFrom_L10, pz_at hh hn hi h2, pz_at hh1 hn hi H.1, pz_b, pz_nm]
    rw [if_neg (by rw [h2]; exact nI_ge hi (by omega)), if_pos (pz_P hh (by omega)), if_pos (pz_P hh1 (by omega)), e1, pz_b, nI_1]
    exact g1
theorem pc_cf2 {h h1 : Nat} (hne : h ≠ h1) : ∀ (d i fuel : Nat) (w : qMem), i + d = 8 → d < fuel → (∀ j, j < i → w (19 * h + 15) j = w (19 * h1 + 15) j) → ∃ w1 : qMem, fX0_copyFrom_L47 h h1 fuel w (nI i) = some (quw (quw (quw (quw (quw w1 (19 * h) 5 (w1 (19 * h1) 5)) (19 * h) 6 (w1 (19 * h1) 6)) (19 * h) 7 (w1 (19 * h1) 7)) (19 * h) 8 (w1 (19 * h1) 8)) (19 * h) 9 (w1 (19 * h1) 9)) ∧ (∀ c, c ≠ 19 * h + 15 → w1 c = w c) ∧ ∀ j, j < 8 → w1 (19 * h + 15) j = w1 (19 * h1 + 15) j
  | 0, i, fuel + 1, w, e, _, hA => by
    have e : i = 8 := by omega
    subst e
    refine ⟨w, ?_, fun _ _ => rfl, hA⟩
    have n1 : 19 * h1 ≠ 19 * h := by omega
    simp only [fX0_copyFrom_L47, pz_nm]
    rw [if_pos (by decide)]
    simp only [pz_wn n1]
  | d + 1, i, fuel + 1, w, e, hf, hA => by
    have hi : i < 8 := by omega
    obtain ⟨w1, g1, g2, g3⟩ := pc_cf2 hne d (i + 1) fuel (quw w (19 * h + 15) i (w (19 * h1 + 15) i)) (by omega) (by omega) (fun j hj => by
      rw [pz_wn (c' := 19 * h1 + 15) (by omega)]
      by_cases q : j = i
      · subst q; rw [pz_w]
      · rw [pz_wk q]; exact hA j (by omega))
    refine ⟨w1, ?_, fun c hc => (g2 c hc).trans (pz_rn hc), g3⟩
    simp only [fX0_copyFrom_L47, pz_nm]
    rw [if_neg (show ¬ (8 : Int32) ≤ nI i from nI_ge (b := 8) hi (by omega)), if_pos (pz_qin hi (by omega)), if_pos (pz_qin hi (by omega)), pz_nI (by omega), nI_1]
    exact g1
theorem pc_copy {w : qMem} {h h1 T : Nat} {S : pSt} (hh : h < 12) (hh1 : h1 < 12) (hne : h ≠ h1) (hW : pW T S) (H : pH w h1 S) : ∃ w1 : qMem, fX0_copyFrom w h h1 = some w1 ∧ pH w1 h S ∧ ∀ c, (c < 19 * h ∨ 19 * h + 19 ≤ c) → w1 c = w c := by
  have hW0 := hW
  obtain ⟨hn, hP, hq, hL, hG, _⟩ := hW
  obtain ⟨⟨H1, H2⟩, H3, H4, H5⟩ := H
  obtain ⟨w1, e1, k1, a1⟩ := pc_cf1 hh hh1 hne hn hP (sN S) 0 100 (quw w (19 * h) 2 (w (19 * h1) 2)) (by omega) (by omega) (by rw [pz_w]; exact H1) ⟨by rw [pz_wn (by omega)]; exact H1, fun j hj k hk => by rw [pz_wn (by omega)]; exact H2 j hj k hk⟩ (fun j hj => absurd hj (by omega))
  have h1k : ∀ c, (19 * h1 ≤ c ∧ c < 19 * h1 + 19) → w1 c = w c := fun c hc => by
    rw [k1 c (by omega)]; exact pz_rn (by omega)
  obtain ⟨w2, e2, k2, a2⟩ := pc_cf2 hne 8 0 100 (quw w1 (19 * h) 4 (w1 (19 * h1) 4)) (by omega) (by omega) (fun j hj => absurd hj (by omega))
  have h2k : ∀ c, (19 * h1 ≤ c ∧ c < 19 * h1 + 19) → w2 c = w c := fun c hc => by
    rw [k2 c (by omega), ← h1k c hc]; exact pz_rn (by omega)
  have e22 : w2 (19 * h) 2 = nI (sN S) := by rw [k2 _ (by omega), pz_wk (by decide), k1 _ (by omega), pz_w]; exact H1
  refine ⟨quw (quw (quw (quw (quw w2 (19 * h) 5 (w2 (19 * h1) 5)) (19 * h) 6 (w2 (19 * h1) 6)) (19 * h) 7 (w2 (19 * h1) 7)) (19 * h) 8 (w2 (19 * h1) 8)) (19 * h) 9 (w2 (19 * h1) 9), ?_, ⟨⟨?_, fun i hi k hk => ?_⟩, ?_, fun j hj => ?_, fun k hk => ?_⟩, fun c hc => ?_⟩
  · unfold fX0_copyFrom
    rw [pz_nm]
    exact e1.trans e2
  · rw [pz_wk (by decide), pz_wk (by decide), pz_wk (by decide), pz_wk (by decide), pz_wk (by decide)]; exact e22
  · rw [pz_wn (by omega), pz_wn (by omega), pz_wn (by omega), pz_wn (by omega), pz_wn (by omega), k2 _ (by omega), pz_wn (by omega)]; exact a1 i hi k hk
  · rw [pz_wk (by decide), pz_wk (by decide), pz_wk (by decide), pz_wk (by decide), pz_wk (by decide), k2 _ (by omega), pz_w, h1k _ (by omega)]; exact H3
  · rw [pz_wn (by omega), pz_wn (by omega), pz_wn (by omega), pz_wn (by omega), pz_wn (by omega), a2 j (by omega), h2k _ (by omega)]; exact H4 j hj
  · have q := H5 k hk
    rcases k with _ | _ | _ | _ | _ | k
    · rw [pz_wk (by decide), pz_wk (by decide), pz_wk (by decide), pz_wk (by decide), pz_w, h2k _ (by omega)]; exact q
    · rw [pz_wk (by decide), pz_wk (by decide), pz_wk (by decide), pz_w, h2k _ (by omega)]; exact q
    · rw [pz_wk (by decide), pz_wk (by decide), pz_w, h2k _ (by omega)]; exact q
    · rw [pz_wk (by decide), pz_w, h2k _ (by omega)]; exact q
    · rw [pz_w, h2k _ (by omega)]; exact q
    · omega
  · have hc1 : c ≠ 19 * h := by omega
    funext k
    rw [pz_wn hc1, pz_wn hc1, pz_wn hc1, pz_wn hc1, pz_wn hc1, k2 _ (by omega), pz_wn hc1, k1 _ (by omega), pz_wn hc1]
-- the reference's copies of its row
theorem pv_c (f g : Nat → Int32) (sp dp n k : Nat) : va_cpy f g sp dp n k = if dp ≤ k ∧ k < dp + n then f (sp + (k - dp)) else g k := rfl
theorem pv_row (f g : Nat → Int32) {k : Nat} (h : k < 99) : va_cpy f g (0 : Int32).toNatClampNeg (0 : Int32).toNatClampNeg (99 : Int32).toNatClampNeg k = f k := by
  have e0 : (0 : Int32).toNatClampNeg = 0 := by decide
  have e9 : (99 : Int32).toNatClampNeg = 99 := by decide
  rw [pv_c, e0, e9, if_pos (by omega)]
  congr 1; omega
theorem pt_30 : ∀ d, d < 8 → qcpy 0 (99 * nI d) 99 99 792 = true ∧ (99 * nI d).toNatClampNeg = 99 * d := by decide +kernel
