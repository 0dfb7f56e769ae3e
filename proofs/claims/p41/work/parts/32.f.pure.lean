-- all orders read by class and reference
theorem pCs.k {w w1 : qMem} {t : Nat → Int32} {L o o' i : Nat} (H : pCs w t L o) (f : pKf w w1 i o') : pCs w1 t L o' := ⟨(f.2.1 1 (by decide)).trans H.1, f.2.2.1, fun j hj => by rw [f.1 232 (by decide) (by decide) (by decide) (by decide)]; exact H.2.2 j hj⟩
def pLc (w w1 : qMem) (i : Nat) : Prop := (∀ c, c ≠ 231 → c ≠ 233 → c ≠ 234 → c ≠ 235 → w1 c = w c) ∧ (∀ k, k ≠ 5 → k ≠ 6 → w1 231 k = w 231 k) ∧ ∀ j, j < i → w1 233 j = w 233 j ∧ w1 234 j = w 234 j ∧ w1 235 j = w 235 j
