-- the breakages of a state that nothing was taken from: as many as its broken props
def pBq (S : pSt) : Prop := sG S 4 = nI (pBk (sP S) (sN S))
def pB1 (p : Nat → Int32) : Int32 := if p 4 = 0 then 0 else 1
theorem pBk_sum (P : Nat → Nat → Int32) : ∀ n, nI (pBk P n) = pSum (fun i => pB1 (P i)) n
  | 0 => rfl
  | n + 1 => by
    show nI (pBk P n + (if P n 4 = 0 then 0 else 1)) = pSum (fun i => pB1 (P i)) n + pB1 (P n)
    rw [← pBk_sum P n]
    unfold pB1
    by_cases h : P n 4 = 0
    · rw [if_pos h, if_pos h]; exact (nI_add _ 0).symm
    · rw [if_neg h, if_neg h]; exact (nI_add _ 1).symm
theorem pSum_cg {g h : Nat → Int32} : ∀ n, (∀ i, i < n → g i = h i) → pSum g n = pSum h n
  | 0, _ => rfl
  | n + 1, H => by
    show pSum g n + g n = pSum h n + h n
    rw [pSum_cg n (fun i hi => H i (by omega)), H n (by omega)]
theorem pB1_cup (r : Int32) (p : Nat → Int32) : pB1 (pCupN r p) = pB1 p + pCupR r p := by
  unfold pB1 pCupN pCupR
  by_cases h : p 4 = 0
  · rw [if_pos h, if_pos h, if_pos h]
    by_cases h1 : r < p 2
    · rw [if_pos h1, if_pos h1]
      by_cases h2 : 2 * r < p 2
      · rw [if_pos h2, if_pos h]; rfl
      · rw [if_neg h2, show upd p 6 (p 6 + 1) 4 = p 4 from rfl, if_pos h]; rfl
    · rw [if_neg h1, if_neg h1]
      show (if (if p 3 + 1 < 3 then (0 : Int32) else 1) = 0 then (0 : Int32) else 1) = 0 + _
      by_cases h3 : p 3 + 1 < 3
      · rw [if_pos h3]; rfl
      · rw [if_neg h3]; rfl
  · rw [if_neg h, if_neg h, if_neg h]; rfl
theorem pB1_lamp (r a : Int32) (p : Nat → Int32) : pB1 (pLampN r a p) = pB1 p + pLampR r a p := by
  unfold pB1 pLampN pLampR
  by_cases h : p 4 = 0
  · rw [if_pos h, if_pos h, if_pos h]
    show (if (if pSw r a p ≤ 20 then (0 : Int32) else 1) = 0 then (0 : Int32) else 1) = 0 + _
    by_cases h3 : pSw r a p ≤ 20
    · rw [if_pos h3]; rfl
    · rw [if_neg h3]; rfl
  · rw [if_neg h, if_neg h, if_neg h]; rfl
theorem pB1_cat (r f : Int32) (p : Nat → Int32) : pB1 (pCatN r f p) = pB1 p := by
  unfold pB1 pCatN
  by_cases h : f = 0
  · rw [if_pos h]; rfl
  · rw [if_neg h]; rfl
theorem pBq_shk (a : Nat) {S : pSt} (h : pBq S) : pBq (sShk a S) := by
  show sG S 4 + pBr (sN S) a (sP S) = nI (pBk (pP3 (sN S) a (sP S)) (sN S))
  rw [show sG S 4 = _ from h, pBk_sum, pBk_sum]
  unfold pBr
  rw [← pSum_add, ← pSum_add]
  apply pSum_cg
  intro i _
  have e3 : pB1 (pP3 (sN S) a (sP S) i) = pB1 (pP2 (sN S) a (sP S) i) := by
    unfold pP3 pNk
    by_cases q : pP2 (sN S) a (sP S) i 0 = 3
    · rw [if_pos q, pB1_cat]
    · rw [if_neg q]
  have e2 : pB1 (pP2 (sN S) a (sP S) i) = pB1 (pP1 (sN S) a (sP S) i) + pBl (pRe (sP S) (sN S) a) (nI a) (pP1 (sN S) a (sP S)) i := by
    unfold pP2 pNl pBl
    by_cases q : pP1 (sN S) a (sP S) i 0 = 2
    · rw [if_pos q, if_pos q, pB1_lamp]
    · rw [if_neg q, if_neg q]; exact (Int32.add_zero _).symm
  have e1 : pB1 (pP1 (sN S) a (sP S) i) = pB1 (sP S i) + pBc (pRe (sP S) (sN S) a) (sP S) i := by
    unfold pP1 pNc pBc
    by_cases q : sP S i 0 = 1
    · rw [if_pos q, if_pos q, pB1_cup]
    · rw [if_neg q, if_neg q]; exact (Int32.add_zero _).symm
  rw [e3, e2, e1, Int32.add_assoc]
theorem pBq_put (k : Int32) (f m : Nat) {S : pSt} (h : pBq S) : pBq (sPut k f m S) := by
  show sG S 4 = nI (pBk (pUp (sP S) (sN S) (pNw k (nI f) (nI m))) (sN S + 1))
  rw [show sG S 4 = _ from h, pBk_sum, pBk_sum]
  show _ = pSum (fun i => pB1 (pUp (sP S) (sN S) (pNw k (nI f) (nI m)) i)) (sN S) + pB1 (pUp (sP S) (sN S) (pNw k (nI f) (nI m)) (sN S))
  rw [pUp_i, show pB1 (pNw k (nI f) (nI m)) = 0 from rfl, Int32.add_zero]
  apply pSum_cg
  intro i hi
  rw [pUp_n _ _ (by omega)]
theorem pBq_cue (i : Nat) (v : Int32) {S : pSt} (h : pBq S) : pBq (sCue i v S) := by
  show sG S 4 = nI (pBk (pUp (sP S) i (upd (sP S i) 5 v)) (sN S))
  rw [show sG S 4 = _ from h, pBk_sum, pBk_sum]
  apply pSum_cg
  intro j hj
  by_cases q : j = i
  · subst q; rw [pUp_i]; rfl
  · rw [pUp_n _ _ q]
theorem pBq_set (a : Nat) {S : pSt} (h : pBq S) : pBq (sSet a S) := h
theorem pBq_add (a : Nat) {S : pSt} (h : pBq S) : pBq (sAdd a S) := h
