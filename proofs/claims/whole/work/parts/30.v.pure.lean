-- undo, save, restore, text
theorem pHis_at {T : Nat} {w : qMem} (H : pHis T w) : w 229 2 = w 238 6 := by
  obtain ⟨d, x, hd, hx, a1, a2, a3, a4⟩ := H
  rw [a2, a3]
theorem pI_past {T : Nat} {w w' : qMem} (H : pI T w) (f1 : ∀ c, ((19 * 2 ≤ c ∧ c < 57) ∨ (231 ≤ c ∧ c < 238) ∨ c = 242 ∨ c = 244 ∨ c = 245) → w' c = w c) (f2 : w' 228 = w 228) (f3 : ∀ k, k ≠ 6 → k ≠ 7 → w' 238 k = w 238 k) (hS : ∃ S : pSt, pW T S ∧ pH w' 0 S ∧ pR (w' 239) S) (hH : pHis T w') : pI T w' :=
  pI_rest H (Nat.le_refl _) f1 (fun k _ _ _ => by rw [f2]) (fun k hk => f3 k (by omega) (by omega)) hS hH (by rw [f2, f3 8 (by decide) (by decide)]; exact H.2.2.2.2.2.1) (by rw [f2, f3 9 (by decide) (by decide)]; exact H.2.2.2.2.2.2.1)
theorem pt_50 : ∀ d, d < 8 → qcpy (99 * nI d) 0 99 792 99 = true ∧ (99 * nI d).toNatClampNeg = 99 * d := by decide +kernel
theorem pq_36 {T : Nat} {w : qMem} (a1 a2 a3 : Int32) (H : pI T w) : ∃ w1 : qMem, qs_36 w a1 a2 a3 = some w1 ∧ pI (T + 2000) w1 := by
  obtain ⟨⟨S, hW, hH, hR⟩, ⟨d, x, hd, hx, a1', a2', a3', a4⟩, hv, ⟨n, hn, t1, t2, t3⟩, ⟨m, hm, l1, l2, l3⟩, e8, e9, e7⟩ := H
  obtain ⟨w2, c2, k2, k3⟩ := pc_copy (h := 2) (h1 := 0) (by decide) (by decide) (by decide) hW hH
  have hC : fX5_save w = some (nI (sN S), quw w2 228 6 1) := by
    unfold fX5_save
    rw [c2, pz_b, pz_nm, pz_wn (by decide), k3 0 (by omega)]
    have : w 0 2 = nI (sN S) := hH.1.1
    rw [this]
  have w3f : ∀ c, (c < 38 ∨ 57 ≤ c) → c ≠ 228 → quw w2 228 6 1 c = w c := fun c hc h => by rw [pz_wr, pz_rn h, k3 c (by omega)]
  have hR6 : ∃ w9 : qMem, fX6_save (quw w2 228 6 1) = some (nI (sN S), w9) ∧ (∀ c, c ≠ 238 → c ≠ 242 → w9 c = quw w2 228 6 1 c) ∧ (∀ k, k ≠ 7 → k ≠ 4 → w9 238 k = w 238 k) ∧ w9 238 4 = 1 ∧ ∀ k, k < 99 → w9 242 k = w 239 k := by
    unfold fX6_save
    rw [pz_nm, if_pos (by decide), pz_nm, pz_nm, pz_wn (by decide), pz_rn (by decide), pz_wn (by decide), w3f 239 (by omega) (by decide)]
    have : w 239 0 = nI (sN S) := hR.1.1
    rw [this]
    refine ⟨_, rfl, fun c h1 h2 => ?_, fun k h1 h2 => ?_, ?_, fun k hk => ?_⟩
    · rw [pz_wr, pz_rn h1, pz_rn h2, pz_wr, pz_rn h1]
    · rw [pz_wk h2, pz_rn (by decide), pz_wk h1, w3f 238 (by omega) (by decide)]
    · exact pz_w
    · rw [pz_wn (by decide), pz_r, pv_row _ _ hk, pz_wn (by decide), w3f 239 (by omega) (by decide)]
  obtain ⟨w9, c9, f1, f2, f3, f4⟩ := hR6
  refine ⟨w9, ?_, ?_⟩
  · unfold qs_36
    rw [hC, pz_b2, c9, pz_b2, if_pos rfl]
  · have ff : ∀ c, (c < 38 ∨ 57 ≤ c) → c ≠ 228 → c ≠ 238 → c ≠ 242 → w9 c = w c := fun c hc h1 h2 h3 => by rw [f1 c h2 h3, w3f c hc h1]
    have g8 : ∀ k, k ≠ 6 → w9 228 k = w 228 k := fun k hk => by rw [f1 228 (by decide) (by decide), pz_wk hk, k3 228 (by omega)]
    refine pI.mo (T := T) ⟨⟨S, hW, ph_same hW (fun c c1 c2 => ff c (by omega) (by omega) (by omega) (by omega)) hH, by rw [ff 239 (by omega) (by decide) (by decide) (by decide)]; exact hR⟩, ⟨d, x, hd, hx, ?_, ?_, ?_, fun j hj => ?_⟩, Or.inr ⟨?_, f3, S, hW, ?_, ?_⟩, ⟨n, hn, ?_, ?_, fun j hj => ?_⟩, ⟨m, hm, ?_, ?_, fun j hj => ?_⟩, ?_, ?_, ?_⟩ (by omega)
    · rw [ff 229 (by omega) (by decide) (by decide) (by decide)]; exact a1'
    · rw [ff 229 (by omega) (by decide) (by decide) (by decide)]; exact a2'
    · rw [f2 6 (by decide) (by decide)]; exact a3'
    · obtain ⟨S, s1, s2, s3⟩ := a4 j hj
      exact ⟨S, s1, ph_same s1 (fun c c1 c2 => ff c (by omega) (by omega) (by omega) (by omega)) s2, by rw [ff 243 (by omega) (by decide) (by decide) (by decide)]; exact s3⟩
    · rw [f1 228 (by decide) (by decide)]; exact pz_w
    · exact ph_same hW (fun c c1 c2 => by rw [f1 c (by omega) (by omega), pz_wr, pz_rn (by omega)]) k2
    · exact pr_cg hW f4 hR
    · rw [ff 231 (by omega) (by decide) (by decide) (by decide)]; exact t1
    · rw [f2 15 (by decide) (by decide)]; exact t2
    · rw [ff 232 (by omega) (by decide) (by decide) (by decide), ff 245 (by omega) (by decide) (by decide) (by decide)]; exact t3 j hj
    · rw [ff 236 (by omega) (by decide) (by decide) (by decide)]; exact l1
    · rw [f2 13 (by decide) (by decide)]; exact l2
    · rw [ff 237 (by omega) (by decide) (by decide) (by decide), ff 244 (by omega) (by decide) (by decide) (by decide)]; exact l3 j hj
    · rw [g8 8 (by decide), f2 8 (by decide) (by decide)]; exact e8
    · rw [g8 9 (by decide), f2 9 (by decide) (by decide)]; exact e9
    · rw [g8 7 (by decide), f2 18 (by decide) (by decide)]; exact e7
theorem pq_37 {T : Nat} {w : qMem} (a1 a2 a3 : Int32) (H : pI T w) : ∃ w1 : qMem, qs_37 w a1 a2 a3 = some w1 ∧ pI (T + 2000) w1 := by
  unfold qs_37 fL_restore fX5_restore
  rcases H.2.2.1 with ⟨v1, v2⟩ | ⟨v1, v2, S, hW, hH, hR⟩
  · refine ⟨quw w 238 7 1, ?_, (pI_7 H 1).mo (by omega)⟩
    rw [if_pos v1]
    have : qlh [5] (0 : Int32) (some (5, 0, w)) = some (1, 0, w) := rfl
    rw [this, pz_bn]; unfold fX6_restore fX6_restore_L13
    rw [if_pos v2, pz_nm, pz_w, if_neg (by decide), pz_b2, fX6_thrown, pz_w, pz_b, if_pos rfl, if_neg (by decide)]
  · obtain ⟨w2, c2, k2, k3⟩ := pc_copy (h := 0) (h1 := 2) (by decide) (by decide) (by decide) hW hH
    obtain ⟨d, x, hd, hx, a1', a2', a3', a4⟩ := H.2.1
    have c0 : quw w2 229 2 0 0 2 = nI (sN S) := by rw [pz_wn (by decide)]; exact k2.1.1
    rw [if_neg (by rw [v1]; decide), c2, pz_b, pz_nm, c0]
    have : qlh [5] (0 : Int32) (some (0, nI (sN S), quw w2 229 2 0)) = some (0, nI (sN S), quw w2 229 2 0) := rfl
    rw [this, pz_bn]; unfold fX6_restore fX6_restore_L13
    have w3f : ∀ c, 19 ≤ c → c ≠ 229 → quw w2 229 2 0 c = w c := fun c hc h => by rw [pz_wr, pz_rn h, k3 c (by omega)]
    rw [w3f 238 (by decide) (by decide), if_neg (by rw [v2]; decide), pz_nm, pz_w, if_pos (by decide), if_pos (by decide), pz_nm, pz_nm, pz_b2, fX6_thrown, pz_wk (by decide), pz_rn (by decide), pz_w, pz_b, if_pos rfl, if_pos rfl]
    have r0 : quw (qur (quw (quw w2 229 2 0) 238 7 0) 239 (va_cpy (quw (quw w2 229 2 0) 238 7 0 242) (quw (quw w2 229 2 0) 238 7 0 239) (0 : Int32).toNatClampNeg (0 : Int32).toNatClampNeg (99 : Int32).toNatClampNeg)) 238 6 0 239 0 = nI (sN S) := by
      rw [pz_wn (by decide), pz_r, pv_row _ _ (by decide), pz_wn (by decide), w3f 242 (by decide) (by decide)]; exact hR.1.1
    rw [r0, if_pos rfl]
    refine ⟨_, rfl, (pI_past H (fun c hc => ?_) ?_ (fun k h6 h7 => ?_) ⟨S, hW, ?_, ?_⟩ ⟨0, x, by omega, hx, ?_, ?_, ?_, fun j hj => absurd hj (Nat.not_lt_zero _)⟩).mo (by omega)⟩
    · rw [pz_wr, pz_rn (by omega), pz_rn (by omega), pz_wr, pz_rn (by omega), w3f c (by omega) (by omega)]
    · rw [pz_wr, pz_rn (by decide), pz_rn (by decide), pz_wr, pz_rn (by decide), w3f 228 (by decide) (by decide)]
    · rw [pz_wk h6, pz_rn (by decide), pz_wk h7, w3f 238 (by decide) (by decide)]
    · exact ph_same hW (fun c c1 c2 => by rw [pz_wr, pz_rn (by omega), pz_rn (by omega), pz_wr, pz_rn (by omega), pz_wr, pz_rn (by omega)]) k2
    · refine pr_cg hW (fun k hk => ?_) hR
      rw [pz_wn (by decide), pz_r, pv_row _ _ hk, pz_wn (by decide), w3f 242 (by decide) (by decide)]
    · rw [pz_wn (by decide), pz_rn (by decide), pz_wn (by decide), pz_wk (by decide), k3 229 (by omega)]; exact a1'
    · rw [pz_wn (by decide), pz_rn (by decide), pz_wn (by decide), pz_w]; rfl
    · exact pz_w
