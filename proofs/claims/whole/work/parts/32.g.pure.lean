-- the orders of a text carried out
def pGc (w w1 : qMem) (t rs dt : Int32) (S : pSt) : Prop := (∀ c, 19 ≤ c → c ≠ 228 → w1 c = w c) ∧ (∀ k, k ≠ 8 → k ≠ 9 → k ≠ 10 → w1 228 k = w 228 k) ∧ (t = 0 → pH w1 0 S) ∧ (t = 3 → w1 228 8 = rs ∧ w1 228 9 = dt) ∧ (t ≠ 3 → w1 228 8 = w 228 8 ∧ w1 228 9 = w 228 9)
def pGr2 (w w1 : qMem) (t rs dt : Int32) (S : pSt) : Prop := (∀ c, c ≠ 238 → c ≠ 239 → w1 c = w c) ∧ (∀ k, k ≠ 7 → k ≠ 8 → k ≠ 9 → k ≠ 10 → k ≠ 11 → w1 238 k = w 238 k) ∧ (t = 0 → pR (w1 239) S) ∧ w1 238 7 = (if t = 0 then 0 else if t = 3 then 2 else 1) ∧ (t = 3 → w1 238 8 = rs ∧ w1 238 9 = dt) ∧ (t ≠ 3 → w1 238 8 = w 238 8 ∧ w1 238 9 = w 238 9)
theorem pb_go {N : Nat} (hN : N ≤ 12) {K A B : Nat → Int32} {D : Nat → qMem → Option (Int32 × qMem)} {E : Nat → Int32 → Int32} (hD : ∀ j, j < N → ∀ T, pDo T (K j) (A j) (B j) (D j) (E j)) : ∀ (d i T : Nat) (S : pSt), i + d = N → pW T S → ∃ (t rs dt : Int32) (S' : pSt), pW (T + 100 * d) S' ∧ (t = 0 ∨ t = 1 ∨ t = 2 ∨ t = 3) ∧
    (∀ (w : qMem) (fuel : Nat), d < fuel → pH w 0 S → w 231 5 = nI N → (∀ j, j < N → w 233 j = K j ∧ w 234 j = A j ∧ w 235 j = B j) → ∃ w1 : qMem, fX5_run_L51 fuel w 0 (nI i) = fX5_run_L101 w1 t ∧ pGc w w1 t rs dt S') ∧
    ∀ (w : qMem) (fuel : Nat), d < fuel → pR (w 239) S → w 238 7 = 0 → w 238 20 = nI N → (∀ j, i ≤ j → j < N → pDd (D j) j w) → ∃ w1 : qMem, fX6_run_L117 fuel w (nI i) = (qbd2 (fX6_ends w1 (if t = 0 then nI N else 0)) fun (r : Int32) (w2 : qMem) => some (r, w2)) ∧ pGr2 w w1 t rs dt S'
  | 0, i, T, S, e, hW => by
    have e : i = N := by omega
    subst e
    refine ⟨0, 0, 0, S, hW, Or.inl rfl, fun w fuel hf H h5 _ => ?_, fun w fuel hf H h7 h20 _ => ?_⟩
    · rcases fuel with _ | fuel
      · omega
      · refine ⟨w, ?_, fun _ _ _ => rfl, fun _ _ _ _ => rfl, fun _ => H, fun q => absurd q (by decide), fun _ => ⟨rfl, rfl⟩⟩
        rw [fX5_run_L51, if_pos (show w 231 5 ≤ nI i by rw [h5]; exact pz_ge (Nat.le_refl _) (by omega))]
    · rcases fuel with _ | fuel
      · omega
      · refine ⟨w, ?_, fun _ _ _ => rfl, fun _ _ _ _ _ _ => rfl, fun _ => H, by rw [if_pos rfl]; exact h7, fun q => absurd q (by decide), fun _ => ⟨rfl, rfl⟩⟩
        rw [fX6_run_L117, if_pos (show w 238 20 ≤ nI i by rw [h20]; exact pz_ge (Nat.le_refl _) (by omega)), h20, if_pos rfl]
  | d + 1, i, T, S, e, hW => by
    have hi : i < N := by omega
    obtain ⟨t1, v, rs1, dt1, S1, hW1, ht1, hS1, hC1, hR1⟩ := hD i hi T S hW
    have cs : ∀ (w : qMem) (fuel : Nat), pH w 0 S → w 231 5 = nI N → (∀ j, j < N → w 233 j = K j ∧ w 234 j = A j ∧ w 235 j = B j) → ∃ w1 : qMem, fX5_run_L51 (fuel + 1) w 0 (nI i) = fX5_run_L51 fuel w1 t1 (nI (i + 1)) ∧ pOc w w1 t1 v rs1 dt1 S1 := fun w fuel H h5 hA => by
      obtain ⟨w1, e1, c1⟩ := hC1 w H
      obtain ⟨q1, q2, q3⟩ := hA i hi
      refine ⟨w1, ?_, c1⟩
      have x1 : fX4_wordAt w (nI i) = some (K i) := by
        unfold fX4_wordAt
        rw [if_neg (nI_pos (by omega)), if_neg (show ¬ (12 : Int32) ≤ nI i from nI_ge (b := 12) (by omega) (by omega)), if_pos (pz_qin (by omega) (by omega)), pz_nI (by omega), q1]
      have x2 : fX4_firstAt w (nI i) = some (A i) := by
        unfold fX4_firstAt
        rw [if_neg (nI_pos (by omega)), if_neg (show ¬ (12 : Int32) ≤ nI i from nI_ge (b := 12) (by omega) (by omega)), if_pos (pz_qin (by omega) (by omega)), pz_nI (by omega), q2]
      have x3 : fX4_secondAt w (nI i) = some (B i) := by
        unfold fX4_secondAt
        rw [if_neg (nI_pos (by omega)), if_neg (show ¬ (12 : Int32) ≤ nI i from nI_ge (b := 12) (by omega) (by omega)), if_pos (pz_qin (by omega) (by omega)), pz_nI (by omega), q3]
      rw [fX5_run_L51, if_neg (show ¬ w 231 5 ≤ nI i by rw [h5]; exact nI_ge hi (by omega)), if_pos rfl, x1, pz_b, x2, pz_b, x3, pz_b, e1, pz_b2, nI_1, pz_nm]
    have rsT : ∀ (w : qMem), pR (w 239) S → pDd (D i) i w → ∃ (r : Int32) (w23 : qMem), fX6_does (quw w 238 10 0) (nI i) = some w23 ∧ pOr (quw w 238 10 0) w23 t1 (E i t1) v rs1 dt1 r S1 := fun w H hd => by
      obtain ⟨r, w23, e1, o1⟩ := hR1 (quw w 238 10 0) (by rw [pz_wr, pz_rn (by decide)]; exact H)
      refine ⟨r, w23, ?_, o1⟩
      rw [hd (quw w 238 10 0) (by rw [pz_wn (by decide)]) (by rw [pz_wn (by decide)]) (by rw [pz_wn (by decide)]), e1, pz_b2]
    by_cases ht0 : t1 = 0
    · obtain ⟨t, rs, dt, S', hW', ht, gc, gr⟩ := pb_go hN hD d (i + 1) (T + 100) S1 (by omega) hW1
      refine ⟨t, rs, dt, S', hW'.mo (by omega), ht, fun w fuel hf H h5 hA => ?_, fun w fuel hf H h7 h20 hd => ?_⟩
      · rcases fuel with _ | fuel
        · omega
        · obtain ⟨w1, e1, c1, c2, c3, c4, c5, c6⟩ := cs w fuel H h5 hA
          obtain ⟨w2, e2, g1, g2, g3, g4, g5⟩ := gc w1 fuel (by omega) c1 (by rw [c2 231 (by decide) (by decide)]; exact h5) (fun j hj => by rw [c2 233 (by decide) (by decide), c2 234 (by decide) (by decide), c2 235 (by decide) (by decide)]; exact hA j hj)
          obtain ⟨d1, d2⟩ := c6 (by rw [ht0]; decide)
          refine ⟨w2, ?_, fun c h1 h2 => by rw [g1 c h1 h2, c2 c h1 h2], fun k h1 h2 h3 => by rw [g2 k h1 h2 h3, c3 k h1 h2 h3], g3, g4, fun q => by rw [(g5 q).1, (g5 q).2, d1, d2]; exact ⟨rfl, rfl⟩⟩
          rw [e1, ht0]; exact e2
      · rcases fuel with _ | fuel
        · omega
        · obtain ⟨r, w23, e1, o1, o2, o3, o4, o5, o6, o7⟩ := rsT w H (hd i (Nat.le_refl _) hi)
          have g7 : w23 238 7 = 0 := by rw [(o4 ht0).1, pz_wk (by decide)]; exact h7
          obtain ⟨p8, p9, p10⟩ := o7 (by rw [ht0]; decide)
          obtain ⟨w2, e2, g1, g2, g3, g4, g5, g6⟩ := gr w23 fuel (by omega) o1 g7 (by rw [o3 20 (by decide) (by decide) (by decide) (by decide) (by decide), pz_wk (by decide)]; exact h20) (fun j j1 j2 => (hd j (by omega) j2).tr (fun u _ => by rw [o2 246 (by decide) (by decide), pz_wn (by decide)]))
          refine ⟨w2, ?_, fun c h1 h2 => by rw [g1 c h1 h2, o2 c h1 h2, pz_wr, pz_rn h1], fun k h1 h2 h3 h4 h5 => by rw [g2 k h1 h2 h3 h4 h5, o3 k h1 h2 h3 h4 h5, pz_wk h4], g3, g4, g5, fun q => by rw [(g6 q).1, (g6 q).2, p8, p9, pz_wk (by decide), pz_wk (by decide)]; exact ⟨rfl, rfl⟩⟩
          rw [fX6_run_L117, if_neg (show ¬ w 238 20 ≤ nI i by rw [h20]; exact nI_ge hi (by omega)), pz_nm, e1, pz_b, if_pos (show w23 238 7 ≤ 0 by rw [g7]; decide), nI_1, pz_nm]
          exact e2
    · refine ⟨t1, rs1, dt1, S1, hW1.mo (by omega), ht1, fun w fuel hf H h5 hA => ?_, fun w fuel hf H h7 h20 hd => ?_⟩
      · rcases fuel with _ | fuel
        · omega
        · obtain ⟨w1, e1, c1, c2, c3, c4, c5, c6⟩ := cs w fuel H h5 hA
          refine ⟨w1, ?_, c2, c3, fun q => absurd q ht0, c5, c6⟩
          rw [e1]
          rcases fuel with _ | fuel
          · omega
          · rw [fX5_run_L51]
            by_cases z : w1 231 5 ≤ nI (i + 1)
            · rw [if_pos z]
            · rw [if_neg z, if_neg ht0]
      · rcases fuel with _ | fuel
        · omega
        · obtain ⟨r, w23, e1, o1, o2, o3, o4, o5, o6, o7⟩ := rsT w H (hd i (Nat.le_refl _) hi)
          have g7 : ¬ w23 238 7 ≤ 0 := by
            rw [o5 ht0]
            rcases (hS1 ht0).2 with q | q | q
            · rw [q]; decide
            · rw [q]; decide
            · rw [q]; decide
          by_cases h3 : t1 = 3
          · obtain ⟨p10, p8, p9⟩ := o6 h3
            refine ⟨quw w23 238 7 2, ?_, fun c h1 h2 => by rw [pz_wr, pz_rn h1, o2 c h1 h2, pz_wr, pz_rn h1], fun k h1 h2 h3 h4 h5 => by rw [pz_wk h1, o3 k h1 h2 h3 h4 h5, pz_wk h4], fun q => absurd q ht0, by rw [pz_w, if_neg ht0, if_pos h3], fun _ => by rw [pz_wk (by decide), pz_wk (by decide)]; exact ⟨p8, p9⟩, fun q => absurd h3 q⟩
            rw [fX6_run_L117, if_neg (show ¬ w 238 20 ≤ nI i by rw [h20]; exact nI_ge hi (by omega)), pz_nm, e1, pz_b, if_neg g7, if_neg (show ¬ w23 238 10 = 0 by rw [p10]; decide), pz_nm, if_neg ht0]
          · obtain ⟨p8, p9, p10⟩ := o7 h3
            refine ⟨quw w23 238 7 1, ?_, fun c h1 h2 => by rw [pz_wr, pz_rn h1, o2 c h1 h2, pz_wr, pz_rn h1], fun k h1 h2 h3 h4 h5 => by rw [pz_wk h1, o3 k h1 h2 h3 h4 h5, pz_wk h4], fun q => absurd q ht0, by rw [pz_w, if_neg ht0, if_neg h3], fun q => absurd q h3, fun _ => by rw [pz_wk (by decide), pz_wk (by decide), p8, p9, pz_wk (by decide), pz_wk (by decide)]; exact ⟨rfl, rfl⟩⟩
            rw [fX6_run_L117, if_neg (show ¬ w 238 20 ≤ nI i by rw [h20]; exact nI_ge hi (by omega)), pz_nm, e1, pz_b, if_neg g7, if_pos (show w23 238 10 = 0 by rw [p10, pz_w]), pz_nm, if_neg ht0]
