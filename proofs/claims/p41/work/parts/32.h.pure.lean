theorem pc_read0 {w : qMem} {n : Nat} (h1 : w 231 1 = nI n) : ∃ w2 : qMem, fX4_read w = fX4_read_L12 100 w2 0 ∧ pCs w2 (w 232) n 0 ∧ w2 231 5 = nI 0 ∧ (∀ c, c ≠ 231 → w2 c = w c) ∧ ∀ k, k ≠ 5 → k ≠ 6 → w2 231 k = w 231 k := by
  refine ⟨quw (quw w 231 6 0) 231 5 0, ?_, ⟨?_, ?_, fun j hj => ?_⟩, pz_w, fun c hc => by rw [pz_wr, pz_rn hc, pz_wr, pz_rn hc], fun k h1 h2 => by rw [pz_wk h1, pz_wk h2]⟩
  · unfold fX4_read
    rw [pz_nm, pz_nm]
  · rw [pz_wk (by decide), pz_wk (by decide)]; exact h1
  · rw [pz_wk (by decide), pz_w]; rfl
  · rw [pz_wn (by decide), pz_wn (by decide)]
