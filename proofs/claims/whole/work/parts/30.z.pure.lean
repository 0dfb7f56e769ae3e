-- undo
theorem pc_cnt {w : qMem} {x T : Nat} {S : pSt} (hx : x ≤ 8) (h1 : w 229 1 = nI x) (hW : pW T S) (H : pH w (3 + x) S) : ∃ w1 : qMem, fX1_copyNoteTo w 0 = some w1 ∧ pH w1 0 S ∧ ∀ c, 19 ≤ c → w1 c = w c := by
  unfold fX1_copyNoteTo
  rw [h1, if_neg (nI_pos (by omega)), if_neg (show ¬ (9 : Int32) ≤ nI x from nI_ge (b := 9) (by omega) (by omega)), if_pos (pz_qin (by omega) (by omega)), pz_nI (by omega)]
  obtain ⟨w1, e1, k1, k2⟩ := pc_copy (h := 0) (h1 := 3 + x) (by omega) (by omega) (by omega) hW H
  rw [e1, pz_b]
  exact ⟨w1, rfl, k1, fun c hc => k2 c (by omega)⟩
theorem pc_sb {w : qMem} {d x T : Nat} {S : pSt} (hx : x ≤ 8) (hd : d ≤ 8) (hd0 : 0 < d) (h1 : w 229 1 = nI x) (h2 : w 229 2 = nI d) (hW : pW T S) (H : pH w (3 + (x + 8) % 9) S) : ∃ w1 : qMem, fX1_stepBack w 0 = some w1 ∧ pH w1 0 S ∧ (∀ c, 19 ≤ c → c ≠ 229 → w1 c = w c) ∧ w1 229 1 = nI ((x + 8) % 9) ∧ w1 229 2 = nI (d - 1) := by
  have ed : nI d - 1 = nI (d - 1) := by
    have := nI_pred (d - 1)
    rw [show d - 1 + 1 = d by omega] at this; exact this
  have go : ∀ y, y ≤ 8 → y = (x + 8) % 9 → ∃ w1 : qMem, (qbd (fX1_copyNoteTo (quw (quw w 229 1 (nI y)) 229 2 (nI (d - 1))) 0) fun (w5 : qMem) => some w5) = some w1 ∧ pH w1 0 S ∧ (∀ c, 19 ≤ c → c ≠ 229 → w1 c = w c) ∧ w1 229 1 = nI ((x + 8) % 9) ∧ w1 229 2 = nI (d - 1) := fun y hy ey => by
    obtain ⟨w1, e1, k1, k2⟩ := pc_cnt (w := quw (quw w 229 1 (nI y)) 229 2 (nI (d - 1))) (x := y) hy (by rw [pz_wk (by decide), pz_w]) hW (ph_same hW (fun c c1 c2 => by rw [pz_wr, pz_rn (by omega), pz_wr, pz_rn (by omega)]) (by rw [ey]; exact H))
    refine ⟨w1, by rw [e1, pz_b], k1, fun c c1 c2 => by rw [k2 c c1, pz_wr, pz_rn c2, pz_wr, pz_rn c2], ?_, ?_⟩
    · rw [k2 229 (by decide), pz_wk (by decide), pz_w, ey]
    · rw [k2 229 (by decide), pz_w]
  unfold fX1_stepBack
  rw [h1]
  by_cases z : x = 0
  · subst z
    have := go 8 (by decide) (by decide)
    rw [if_pos (by decide), pz_nm, pz_wk (by decide), h2, ed, pz_nm]
    exact this
  · have ex : nI x - 1 = nI (x - 1) := by
      have := nI_pred (x - 1)
      rw [show x - 1 + 1 = x by omega] at this; exact this
    have := go (x - 1) (by omega) (by omega)
    rw [if_neg (nI_nle (by omega) (by omega)), ex, pz_nm, pz_wk (by decide), h2, ed, pz_nm]
    exact this
theorem pv_und (f g : Nat → Int32) {d k : Nat} (hk : k < 99) : va_cpy f g (99 * d) (0 : Int32).toNatClampNeg (99 : Int32).toNatClampNeg k = f (99 * d + k) := by
  have e0 : (0 : Int32).toNatClampNeg = 0 := by decide
  have e9 : (99 : Int32).toNatClampNeg = 99 := by decide
  rw [pv_c, e0, e9, if_pos (by omega), Nat.sub_zero]
theorem pr_und {w : qMem} {d : Nat} (h0 : 0 < d) (hd : d ≤ 8) (h6 : w 238 6 = nI d) : ∃ w1 : qMem, fX6_undo w = some (nI (d - 1), w1) ∧ w1 238 6 = nI (d - 1) ∧ w1 238 7 = 0 ∧ (∀ k, k < 99 → w1 239 k = w 243 (99 * (d - 1) + k)) ∧ (∀ c, c ≠ 238 → c ≠ 239 → w1 c = w c) ∧ ∀ k, k ≠ 6 → k ≠ 7 → w1 238 k = w 238 k := by
  have ed : nI d - 1 = nI (d - 1) := by
    have := nI_pred (d - 1)
    rw [show d - 1 + 1 = d by omega] at this; exact this
  obtain ⟨q1, q2⟩ := pt_50 (d - 1) (by omega)
  obtain ⟨w4, hw4, f6, f7, fk, fc⟩ : ∃ w4 : qMem, quw (quw w 238 7 0) 238 6 (nI (d - 1)) = w4 ∧ w4 238 6 = nI (d - 1) ∧ w4 238 7 = 0 ∧ (∀ k, k ≠ 6 → k ≠ 7 → w4 238 k = w 238 k) ∧ ∀ c, c ≠ 238 → w4 c = w c :=
    ⟨_, rfl, pz_w, by rw [pz_wk (by decide), pz_w], fun k a b => by rw [pz_wk a, pz_wk b], fun c h => by rw [pz_wr, pz_rn h, pz_wr, pz_rn h]⟩
  have e : fX6_undo w = some (nI (d - 1), qur w4 239 (va_cpy (w4 243) (w4 239) (99 * (d - 1)) (0 : Int32).toNatClampNeg (99 : Int32).toNatClampNeg)) := by
    unfold fX6_undo fX6_undo_L13
    rw [h6, if_neg (nI_ne0 h0 (by omega)), pz_nm, pz_w, if_pos (by decide), pz_wk (by decide), h6, ed, pz_nm, hw4, f6, if_pos q1, q2, pz_nm, pz_rn (by decide), f6]
  refine ⟨_, e, by rw [pz_rn (by decide)]; exact f6, by rw [pz_rn (by decide)]; exact f7, fun k hk => by rw [pz_r, pv_und _ _ hk, fc 243 (by decide)], fun c h1 h2 => by rw [pz_rn h2, fc c h1], fun k a b => by rw [pz_rn (by decide)]; exact fk k a b⟩
theorem pq_35 {T : Nat} {w : qMem} (a1 a2 a3 : Int32) (H : pI T w) : ∃ w1 : qMem, qs_35 w a1 a2 a3 = some w1 ∧ pI (T + 2000) w1 := by
  obtain ⟨d, x, hd, hx, a1', a2', a3', a4⟩ := H.2.1
  unfold qs_35 fL_undo fX5_undo
  by_cases z : d = 0
  · refine ⟨quw w 238 7 1, ?_, (pI_7 H 1).mo (by omega)⟩
    rw [a2', if_pos (by rw [z]; rfl)]
    have : qlh [5] (0 : Int32) (some (5, 0, w)) = some (1, 0, w) := rfl
    rw [this, pz_bn]; unfold fX6_undo fX6_undo_L13
    rw [a3', if_pos (by rw [z]; rfl), pz_nm, pz_w, if_neg (by decide), pz_b2, fX6_thrown, pz_w, pz_b, if_pos rfl, if_neg (by decide)]
  · obtain ⟨S, hW, hH, hR⟩ := a4 0 (by omega)
    obtain ⟨w3, e3, k1, k2, k3, k4⟩ := pc_sb hx hd (by omega) a1' a2' hW (by rw [show (x + 8) % 9 = (x + 8 - 0) % 9 by omega]; exact hH)
    obtain ⟨w9, e9, g6, g7, gr, gc, gk⟩ := pr_und (w := w3) (d := d) (by omega) hd (by rw [k2 238 (by decide) (by decide)]; exact a3')
    have ff : ∀ c, 19 ≤ c → c ≠ 229 → c ≠ 238 → c ≠ 239 → w9 c = w c := fun c h1 h2 h3 h4 => by rw [gc c h3 h4, k2 c h1 h2]
    refine ⟨w9, ?_, (pI_past H (fun c hc => ff c (by omega) (by omega) (by omega) (by omega)) (ff 228 (by decide) (by decide) (by decide) (by decide)) (fun k h6 h7 => by rw [gk k h6 h7, k2 238 (by decide) (by decide)]) ⟨S, hW, ph_same hW (fun c c1 c2 => gc c (by omega) (by omega)) k1, pr_cg hW (fun k hk => ?_) hR⟩ ⟨d - 1, (x + 8) % 9, by omega, by omega, by rw [gc 229 (by decide) (by decide)]; exact k3, by rw [gc 229 (by decide) (by decide)]; exact k4, g6, fun j hj => ?_⟩).mo (by omega)⟩
    · rw [a2', if_neg (nI_ne0 (by omega) (by omega)), e3, pz_b, k4]
      have : qlh [5] (0 : Int32) (some (0, nI (d - 1), w3)) = some (0, nI (d - 1), w3) := rfl
      rw [this, pz_bn, e9, pz_b2, fX6_thrown, g7, pz_b, if_pos rfl, if_pos rfl, if_pos rfl]
    · show w9 239 k = w 243 (99 * (d - 1 - 0) + k)
      rw [gr k hk, k2 243 (by decide) (by decide), Nat.sub_zero]
    · obtain ⟨S', s1, s2, s3⟩ := a4 (j + 1) (by omega)
      refine ⟨S', s1, ?_, ?_⟩
      · rw [show ((x + 8) % 9 + 8 - j) % 9 = (x + 8 - (j + 1)) % 9 by omega]
        exact ph_same s1 (fun c c1 c2 => ff c (by omega) (by omega) (by omega) (by omega)) s2
      · rw [ff 243 (by decide) (by decide) (by decide) (by decide), show d - 1 - 1 - j = d - 1 - (j + 1) by omega]
        exact s3
