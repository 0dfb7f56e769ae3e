-- undo
theorem pc_cnt {w : qMem} {x T : Nat} {S : pSt} (hx : x ≤ 8) (h1 : w 229 1 = nI x) (hW : pW T S) (H : pH w (3 + x) S) : ∃ w1 : qMem, fX1_copyNoteTo w 0 = some w1 ∧ pH w1 0 S ∧ ∀ c, 19 ≤ c → w1 c = w c := by
  unfold fX1_copyNoteTo
  rw [h1, if_neg (nI_pos (by omega)), if_neg (show ¬ (9 : Int32) ≤ nI x from nI_ge (b := 9) (by omega) (by omega)), if_pos (pz_qin (by omega) (by omega)), pz_nI (by omega)]
  obtain ⟨w1, e1, k1, k2⟩ := pc_copy (h := 0) (h1 := 3 + x) (by omega) (by omega) (by omega) hW H
  rw [e1, pz_b]
  exact ⟨w1, rfl, k1, fun c hc => k2 c (by omega)⟩
theorem pc_sb {w : qMem} {d x T : Nat} {S : pSt} (hx : x ≤ 8) (hd : d ≤ 8) (hd0 : 0 < d) (h1 : w 229 1 = nI x) (h2 : w 229 2 = nI d) (hW : pW T S) (H : pH w (3 + (x + 8) % 9) S) : ∃ w1 : qMem, fX1_stepBack w 0 = some w1 ∧ pH w1 0 S ∧ (∀ c, 19 ≤ c → c ≠ 229 → w1 c = w c) ∧ w1 229 1 = nI ((x + 8) % 9) ∧ w1 229 2 = nI (d - 1) := by
  have ed : nI d - 1 = nI (d - 1) := by
    have := nI_pred (d - 1)
    rw [show d - 1 + 1 = d by omega] at this; exact this
  have go : ∀ y, y ≤ 8 → y = (x + 8) % 9 → ∃ w1 : qMem, (qbd (fX1_copyNoteTo (quw (quw w 229 1 (nI y)) 229 2 (nI (d - 1))) 0) fun (w5 : qMem) => some w5) = some w1 ∧ pH w1 0 S ∧ (∀ c, 19 ≤ c → c ≠ 229 → w1 c = w c) ∧ w1 229 1 = nI ((x + 8) % 9) ∧ w1 229 2 = nI (d - 1) := fun y hy ey => by
    obtain ⟨w1, e1, k1, k2⟩ := pc_cnt (w := quw (quw w 229 1 (nI y)) 229 2 (nI (d - 1))) (x := y) hy (by rw [pz_wk (by decide), pz_w]) hW (ph_same hW (fun c c1 c2 => by rw [pz_wr, pz_rn (by omega), pz_wr, pz_rn (by omega)]) (by rw [ey]; exact H))
    refine ⟨w1, by rw [e1, pz_b], k1, fun c c1 c2 => by rw [k2 c c1, pz_wr, pz_rn c2, pz_wr, pz_rn c2], ?_, ?_⟩
    · rw [k2 229 (by decide), pz_wk (by decide), pz_w, ey]
    · rw [k2 229 (by decide), pz_w]
  unfold fX1_stepBack
  rw [h1]
  by_cases z : x = 0
  · subst z
    have := go 8 (by decide) (by decide)
    rw [if_pos (by decide), pz_nm, pz_wk (by decide), h2, ed, pz_nm]
    exact this
  · have ex : nI x - 1 = nI (x - 1) := by
      have := nI_pred (x - 1)
      rw [show x - 1 + 1 = x by omega] at this; exact this
    have := go (x - 1) (by omega) (by omega)
    rw [if_neg (nI_nle (by omega) (by omega)), ex, pz_nm, pz_wk (by decide), h2, ed, pz_nm]
    exact this
theorem pv_und (f g : Nat → Int32) {d k : Nat} (hk : k < 99) : va_cpy f g (99 * d) (0 : Int32).toNatClampNeg (99 : Int32).toNatClampNeg k = f (99 * d + k) := by
  have e0 : (0 : Int32).toNatClampNeg = 0 := by decide
  have e9 : (99 : Int32).toNatClampNeg = 99 := by decide
  rw [pv_c, e0, e9, if_pos (by omega), Nat.sub_zero]
