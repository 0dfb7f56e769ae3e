-- one prop shaken, asked: class and reference
def pCupR (r : Int32) (p : Nat → Int32) : Int32 := if p 4 = 0 then (if r < p 2 then 0 else (if p 3 + 1 < 3 then 0 else 1)) else 0
def pCupN (r : Int32) (p : Nat → Int32) : Nat → Int32 :=
  if p 4 = 0 then
    if r < p 2 then
      if 2 * r < p 2 then p else upd p 6 (p 6 + 1)
    else upd (upd (upd p 3 (p 3 + 1)) 2 (if p 2 ≤ 1 then 1 else p 2 - 1)) 4 (if p 3 + 1 < 3 then 0 else 1)
  else p
def pSw (r a : Int32) (p : Nat → Int32) : Int32 :=
  if p 5 = a then (if r ≤ 0 then (if p 3 ≤ 0 then 0 else p 3 - 1) else (p 3 + r) + (p 2 - p 2 / r * r)) / 2 else (if r ≤ 0 then (if p 3 ≤ 0 then 0 else p 3 - 1) else (p 3 + r) + (p 2 - p 2 / r * r))
def pLampR (r a : Int32) (p : Nat → Int32) : Int32 := if p 4 = 0 then (if pSw r a p ≤ 20 then 0 else 1) else 0
def pLampN (r a : Int32) (p : Nat → Int32) : Nat → Int32 := if p 4 = 0 then upd (upd p 3 (pSw r a p)) 4 (if pSw r a p ≤ 20 then 0 else 1) else p
def pDist (r : Int32) (p : Nat → Int32) : Int32 := 5 - (if 0 ≤ p 2 - r then p 2 - r else 0 - (p 2 - r))
def pCatM (r f : Int32) (p : Nat → Int32) : Int32 := if f = 0 then (if 0 ≤ pDist r p then pDist r p else 0) else 0
def pCatN (r f : Int32) (p : Nat → Int32) : Nat → Int32 := if f = 0 then upd p 6 (p 6 + pCatM r f p) else upd p 2 (if p 2 ≤ 0 then 0 else p 2 - 1)
theorem pz_qq {w : qMem} {c k : Nat} {g : Nat → Int32} {v : Int32} : quw (qur w c g) c k v = qur w c (upd g k v) := by
  rw [pz_wr, pz_rr, pz_r]
theorem pc_cup {w : qMem} {c : Nat} {r : Int32} (h : w c 4 = 0 ∨ w c 4 = 1) : fX3_shakeCup w c r = some (pCupR r (w c), qur w c (pCupN r (w c))) := by
  unfold fX3_shakeCup pCupR pCupN
  simp only [pz_nm]
  split
  · rename_i h4
    split
    · split
      · rw [if_pos (by rw [h4]; rfl), h4, pz_rs]
      · rw [if_pos (by rw [pz_wk (by decide), h4]; rfl), pz_wk (by decide), h4]; rfl
    · have e : ∀ s0 : Int32, fX3_shakeCup_L46 c (quw w c 3 (w c 3 + 1)) s0 = some (if w c 3 + 1 < 3 then 0 else 1, qur w c (upd (upd (upd (w c) 3 (w c 3 + 1)) 2 s0) 4 (if w c 3 + 1 < 3 then 0 else 1))) := by
        intro s0
        unfold fX3_shakeCup_L46
        simp only [pz_nm, pz_wr (w := w), pz_qq, pz_r]
        rw [pz_un (by decide), pz_u]
        split
        · simp [pz_u, qisB]
        · simp [pz_u, qisB]
      rw [e, e, pz_wk (by decide)]
      split <;> rfl
  · rw [pz_rs]
theorem pc_sw {w : qMem} {c : Nat} {r a : Int32} : fX3_swingAfter w c r a = some (pSw r a (w c)) := by
  have e : ∀ s0 : Int32, fX3_swingAfter_L17 w c r a s0 = some (if w c 5 = a then (if r ≤ 0 then s0 else (w c 3 + r) + (w c 2 - w c 2 / r * r)) / 2 else (if r ≤ 0 then s0 else (w c 3 + r) + (w c 2 - w c 2 / r * r))) := by
    intro s0
    unfold fX3_swingAfter_L17
    simp only [pz_nm]
    split
    · split <;> rfl
    · rename_i h1
      rw [if_neg (fun h => h1 (by rw [h]; decide))]
      split <;> rfl
  unfold fX3_swingAfter pSw
  split
  · rw [e]
  · rw [e]
theorem pc_lamp {w : qMem} {c : Nat} {r a : Int32} (h : w c 4 = 0 ∨ w c 4 = 1) : fX3_shakeLamp w c r a = some (pLampR r a (w c), qur w c (pLampN r a (w c))) := by
  unfold fX3_shakeLamp pLampR pLampN
  simp only [pc_sw, pz_b, pz_nm]
  split
  · rw [pz_w]
    simp only [pz_wr (w := w), pz_qq, pz_r, pz_u]
    split
    · simp [qisB]
    · simp [qisB]
  · rw [pz_rs]
theorem pc_cat {w : qMem} {c : Nat} {r f : Int32} : fX3_judge w c r f = some (pCatM r f (w c), qur w c (pCatN r f (w c))) := by
  unfold fX3_judge pCatN pCatM pDist
  simp only [pz_nm]
  by_cases hf : f = 0
  · simp only [hf, ↓reduceIte]
    generalize (5 : Int32) - _ = x
    by_cases hx : 0 ≤ x
    · simp only [hx, ↓reduceIte]; rfl
    · simp only [hx, ↓reduceIte]; rfl
  · simp only [hf, ↓reduceIte]
    by_cases hx : w c 2 ≤ 0
    · simp only [hx, ↓reduceIte]; rfl
    · simp only [hx, ↓reduceIte]; rfl
