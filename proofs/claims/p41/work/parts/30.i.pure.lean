-- the past: noted by the class, kept and ended by the reference
theorem pv_at (f g : Nat → Int32) {d k : Nat} (hk : k < 99) : va_cpy f g (0 : Int32).toNatClampNeg (99 * d) (99 : Int32).toNatClampNeg (99 * d + k) = f k := by
  have e0 : (0 : Int32).toNatClampNeg = 0 := by decide
  have e9 : (99 : Int32).toNatClampNeg = 99 := by decide
  rw [pv_c, e0, e9, if_pos (by omega)]
  congr 1; omega
theorem pv_off (f g : Nat → Int32) {d k : Nat} (hk : k < 99 * d ∨ 99 * d + 99 ≤ k) : va_cpy f g (0 : Int32).toNatClampNeg (99 * d) (99 : Int32).toNatClampNeg k = g k := by
  have e9 : (99 : Int32).toNatClampNeg = 99 := by decide
  rw [pv_c, e9, if_neg (by omega)]
theorem pv_shift (f : Nat → Int32) {k : Nat} (hk : k < 693) : va_cpy f f (99 : Int32).toNatClampNeg (0 : Int32).toNatClampNeg (693 : Int32).toNatClampNeg k = f (99 + k) := by
  have e0 : (0 : Int32).toNatClampNeg = 0 := by decide
  have e9 : (99 : Int32).toNatClampNeg = 99 := by decide
  have e6 : (693 : Int32).toNatClampNeg = 693 := by decide
  rw [pv_c, e0, e9, e6, if_pos (by omega)]
  congr 1
theorem pW.mo {T T' : Nat} {S : pSt} (h : pW T S) (e : T ≤ T') : pW T' S := ⟨h.1, fun i hi => (h.2.1 i hi).mo e, h.2.2⟩
theorem pc_note {w : qMem} {x T : Nat} {S : pSt} (hx : x ≤ 8) (h1 : w 229 1 = nI x) (hW : pW T S) (H : pH w 0 S) : ∃ w1 : qMem, fX1_note w 0 = some w1 ∧ pH w1 (3 + x) S ∧ ∀ c, (c < 19 * (3 + x) ∨ 19 * (3 + x) + 19 ≤ c) → w1 c = w c := by
  unfold fX1_note
  rw [h1, if_neg (nI_pos (by omega)), if_neg (show ¬ (9 : Int32) ≤ nI x from nI_ge (b := 9) (by omega) (by omega)), if_pos (pz_qin (by omega) (by omega)), pz_nI (by omega)]
  obtain ⟨w1, e1, k1, k2⟩ := pc_copy (h := 3 + x) (h1 := 0) (by omega) (by omega) (by omega) hW H
  rw [e1, pz_b]
  exact ⟨w1, rfl, k1, k2⟩
theorem pc_keep {w : qMem} {x d : Nat} (hx : x ≤ 8) (hd : d ≤ 8) (h1 : w 229 1 = nI x) (h2 : w 229 2 = nI d) : ∃ w1 : qMem, fX1_keepNote w = some w1 ∧ (∀ c, c ≠ 229 → w1 c = w c) ∧ w1 229 1 = nI ((x + 1) % 9) ∧ w1 229 2 = nI (if d = 8 then 8 else d + 1) := by
  have e8 : ∀ v : qMem, v 229 2 = nI d → (if (8 : Int32) ≤ v 229 2 then some v else qnm (quw v 229 2 ((v 229 2) + 1)) fun (w4 : qMem) => some w4) = some (if d = 8 then v else quw v 229 2 (nI (d + 1))) := by
    intro v hv
    rw [hv]
    by_cases q : d = 8
    · subst q; rw [if_pos (by decide), if_pos rfl]
    · rw [if_neg (show ¬ (8 : Int32) ≤ nI d from nI_ge (b := 8) (by omega) (by omega)), if_neg q, pz_nm, nI_1]
  have e9 : ∀ (v : qMem) (y : Nat), v 229 1 = nI y → v 229 2 = nI d → (∀ c, c ≠ 229 → v c = w c) → ∃ w1 : qMem, some (if d = 8 then v else quw v 229 2 (nI (d + 1))) = some w1 ∧ (∀ c, c ≠ 229 → w1 c = w c) ∧ w1 229 1 = nI y ∧ w1 229 2 = nI (if d = 8 then 8 else d + 1) := by
    intro v y hv1 hv2 hk
    by_cases q : d = 8
    · rw [if_pos q, if_pos q]; exact ⟨v, rfl, hk, hv1, by rw [hv2, q]⟩
    · rw [if_neg q, if_neg q]; exact ⟨_, rfl, fun c hc => (pz_rn hc).trans (hk c hc), by rw [pz_wk (by decide)]; exact hv1, pz_w⟩
  unfold fX1_keepNote
  rw [h1]
  by_cases q : x = 8
  · subst q
    rw [if_pos (by decide), pz_nm, e8 _ (by rw [pz_wk (by decide)]; exact h2)]
    exact e9 _ 0 pz_w (by rw [pz_wk (by decide)]; exact h2) (fun c hc => pz_rn hc)
  · rw [if_neg (show ¬ (8 : Int32) ≤ nI x from nI_ge (b := 8) (by omega) (by omega)), pz_nm, nI_1, e8 _ (by rw [pz_wk (by decide)]; exact h2), show (x + 1) % 9 = x + 1 by omega]
    exact e9 _ (x + 1) pz_w (by rw [pz_wk (by decide)]; exact h2) (fun c hc => pz_rn hc)
def pC1 (x : Int32) : Prop := ∃ m : Nat, m ≤ 65535 ∧ x = nI m
