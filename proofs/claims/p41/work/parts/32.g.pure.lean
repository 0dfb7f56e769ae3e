-- the orders of a text carried out
def pGc (w w1 : qMem) (t rs dt : Int32) (S : pSt) : Prop := (∀ c, 19 ≤ c → c ≠ 228 → w1 c = w c) ∧ (∀ k, k ≠ 8 → k ≠ 9 → k ≠ 10 → w1 228 k = w 228 k) ∧ (t = 0 → pH w1 0 S) ∧ (t = 3 → w1 228 8 = rs ∧ w1 228 9 = dt) ∧ (t ≠ 3 → w1 228 8 = w 228 8 ∧ w1 228 9 = w 228 9)
