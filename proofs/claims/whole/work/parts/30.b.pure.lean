-- one prop shaken, asked: class and reference
def pCupR (r : Int32) (p : Nat → Int32) : Int32 := if p 4 = 0 then (if r < p 2 then 0 else (if p 3 + 1 < 3 then 0 else 1)) else 0
def pCupN (r : Int32) (p : Nat → Int32) : Nat → Int32 :=
  if p 4 = 0 then
    if r < p 2 then
      if 2 * r < p 2 then p else upd p 6 (p 6 + 1)
    else upd (upd (upd p 3 (p 3 + 1)) 2 (if p 2 ≤ 1 then 1 else p 2 - 1)) 4 (if p 3 + 1 < 3 then 0 else 1)
  else p
def pSw (r a : Int32) (p : Nat → Int32) : Int32 :=
  if p 5 = a then (if r ≤ 0 then (if p 3 ≤ 0 then 0 else p 3 - 1) else (p 3 + r) + (p 2 - p 2 / r * r)) / 2 else (if r ≤ 0 then (if p 3 ≤ 0 then 0 else p 3 - 1) else (p 3 + r) + (p 2 - p 2 / r * r))
def pLampR (r a : Int32) (p : Nat → Int32) : Int32 := if p 4 = 0 then (if pSw r a p ≤ 20 then 0 else 1) else 0
def pLampN (r a : Int32) (p : Nat → Int32) : Nat → Int32 := if p 4 = 0 then upd (upd p 3 (pSw r a p)) 4 (if pSw r a p ≤ 20 then 0 else 1) else p
def pDist (r : Int32) (p : Nat → Int32) : Int32 := 5 - (if 0 ≤ p 2 - r then p 2 - r else 0 - (p 2 - r))
def pCatM (r f : Int32) (p : Nat → Int32) : Int32 := if f = 0 then (if 0 ≤ pDist r p then pDist r p else 0) else 0
def pCatN (r f : Int32) (p : Nat → Int32) : Nat → Int32 := if f = 0 then upd p 6 (p 6 + pCatM r f p) else upd p 2 (if p 2 ≤ 0 then 0 else p 2 - 1)
theorem pz_qq {w : qMem} {c k : Nat} {g : Nat → Int32} {v : Int32} : quw (qur w c g) c k v = qur w c (upd g k v) := by
  rw [pz_wr, pz_rr, pz_r]
theorem pc_cup {w : qMem} {c : Nat} {r : Int32} (h : w c 4 = 0 ∨ w c 4 = 1) : fX3_shakeCup w c r = some (pCupR r (w c), qur w c (pCupN r (w c))) := by
  unfold fX3_shakeCup pCupR pCupN
  simp only [pz_nm]
  split
  · rename_i h4
    split
    · split
      · rw [if_pos (by rw [h4]; rfl), h4, pz_rs]
      · rw [if_pos (by rw [pz_wk (by decide), h4]; rfl), pz_wk (by decide), h4]; rfl
    · have e : ∀ s0 : Int32, fX3_shakeCup_L46 c (quw w c 3 (w c 3 + 1)) s0 = some (if w c 3 + 1 < 3 then 0 else 1, qur w c (upd (upd (upd (w c) 3 (w c 3 + 1)) 2 s0) 4 (if w c 3 + 1 < 3 then 0 else 1))) := by
        intro s0
        unfold fX3_shakeCup_L46
        simp only [pz_nm, pz_wr (w := w), pz_qq, pz_r]
        rw [pz_un (by decide), pz_u]
        split
        · simp [pz_u, qisB]
        · simp [pz_u, qisB]
      rw [e, e, pz_wk (by decide)]
      split <;> rfl
  · rw [pz_rs]
theorem pc_sw {w : qMem} {c : Nat} {r a : Int32} : fX3_swingAfter w c r a = some (pSw r a (w c)) := by
  have e : ∀ s0 : Int32, fX3_swingAfter_L17 w c r a s0 = some (if w c 5 = a then (if r ≤ 0 then s0 else (w c 3 + r) + (w c 2 - w c 2 / r * r)) / 2 else (if r ≤ 0 then s0 else (w c 3 + r) + (w c 2 - w c 2 / r * r))) := by
    intro s0
    unfold fX3_swingAfter_L17
    simp only [pz_nm]
    split
    · split <;> rfl
    · rename_i h1
      rw [if_neg (fun h => h1 (by rw [h]; decide))]
      split <;> rfl
  unfold fX3_swingAfter pSw
  split
  · rw [e]
  · rw [e]
theorem pc_lamp {w : qMem} {c : Nat} {r a : Int32} (h : w c 4 = 0 ∨ w c 4 = 1) : fX3_shakeLamp w c r a = some (pLampR r a (w c), qur w c (pLampN r a (w c))) := by
  unfold fX3_shakeLamp pLampR pLampN
  simp only [pc_sw, pz_b, pz_nm]
  split
  · rw [pz_w]
    simp only [pz_wr (w := w), pz_qq, pz_r, pz_u]
    split
    · simp [qisB]
    · simp [qisB]
  · rw [pz_rs]
theorem pc_cat {w : qMem} {c : Nat} {r f : Int32} : fX3_judge w c r f = some (pCatM r f (w c), qur w c (pCatN r f (w c))) := by
  unfold fX3_judge pCatN pCatM pDist
  simp only [pz_nm]
  by_cases hf : f = 0
  · simp only [hf, ↓reduceIte]
    generalize (5 : Int32) - _ = x
    by_cases hx : 0 ≤ x
    · simp only [hx, ↓reduceIte]; rfl
    · simp only [hx, ↓reduceIte]; rfl
  · simp only [hf, ↓reduceIte]
    by_cases hx : w c 2 ≤ 0
    · simp only [hx, ↓reduceIte]; rfl
    · simp only [hx, ↓reduceIte]; rfl
-- the reference's
theorem pr_cup {w : qMem} {i : Nat} {r : Int32} (hi : i < 12) (h : w 239 (15 + 7 * i + 4) = 0 ∨ w 239 (15 + 7 * i + 4) = 1) (h3 : w 239 (15 + 7 * i + 4) = 0 → ((w 239 (15 + 7 * i + 3) + 1 = 3) ↔ ¬ w 239 (15 + 7 * i + 3) + 1 < 3)) (h2 : (if 1 < w 239 (15 + 7 * i + 2) - 1 then w 239 (15 + 7 * i + 2) - 1 else 1) = (if w 239 (15 + 7 * i + 2) ≤ 1 then 1 else w 239 (15 + 7 * i + 2) - 1)) : fX6_shakes w (nI i) r = some (pCupR r (pzS (w 239) i), qur w 239 (pzR (w 239) i (pCupN r (pzS (w 239) i)))) := by
  unfold fX6_shakes pCupR pCupN
  obtain ⟨o0, o1, o2, o3, o4, o5, o6⟩ := pz_of_ (w := w) hi
  simp only [o2, o4, o6, o3, pz_b]
  have e4 : pzS (w 239) i 4 = w 239 (15 + 7 * i + 4) := rfl
  have e2 : pzS (w 239) i 2 = w 239 (15 + 7 * i + 2) := rfl
  have e3 : pzS (w 239) i 3 = w 239 (15 + 7 * i + 3) := rfl
  have e6 : pzS (w 239) i 6 = w 239 (15 + 7 * i + 6) := rfl
  rw [e4, e2, e3, e6]
  have k4 : ¬ (0 : Int32) = 1 := by decide
  have k4' : ¬ (1 : Int32) = 0 := by decide
  rcases h with h | h
  · simp only [h, k4, ↓reduceIte]
    by_cases hr : r < w 239 (15 + 7 * i + 2)
    · simp only [hr, ↓reduceIte]
      by_cases hr2 : 2 * r < w 239 (15 + 7 * i + 2)
      · simp only [hr2, ↓reduceIte]
        rw [pzR_s, pz_rs]
      · simp only [hr2, ↓reduceIte]
        rw [(pz_set_ hi _).2.2.2.2.2.2, pz_b, (pz_of_ hi).2.2.2.2.1, pz_b, pz_wk (by omega), h, if_neg k4]
        rw [pz_wr, ← pzR_u _ _ _ _ _ (by omega), pzR_s]
    · simp only [hr, ↓reduceIte]
      rw [(pz_set_ hi _).2.2.2.1, pz_b, pz_nm, (pz_set_ hi _).2.2.1, pz_b, (pz_of_ hi).2.2.2.1, pz_b, h2]
      rw [pz_wk (by omega), pz_w]
      have e : ∀ (w1 : qMem) (s : Nat → Int32) (v : Int32), (v = 0 ∨ v = 1) → fX6_shakes_L69 (qur w1 239 s) (nI i) v 4 (nI i) = some (v, qur w1 239 (upd s (15 + 7 * i + 4) v)) := by
        intro w1 s v hv
        unfold fX6_shakes_L69
        rw [(pz_set_ hi _).2.2.2.2.1, pz_b, (pz_of_ hi).2.2.2.2.1, pz_b, pz_w, pz_qq]
        rcases hv with rfl | rfl
        · rfl
        · rfl
      rw [pz_wr (w := w), pz_qq, e _ _ _ (Or.inr rfl), e _ _ _ (Or.inl rfl)]
      rw [← pzR_u _ _ _ _ _ (by omega), ← pzR_u _ _ _ _ _ (by omega), ← pzR_u _ _ _ _ _ (by omega), pzR_s]
      by_cases hq : w 239 (15 + 7 * i + 3) + 1 < 3
      · rw [if_neg (fun q => (h3 h).mp q hq)]
        simp only [hq, ↓reduceIte]
      · rw [if_pos ((h3 h).mpr hq)]
        simp only [hq, ↓reduceIte]
  · simp only [h, k4', ↓reduceIte]
    rw [pzR_s, pz_rs]
theorem pr_lamp {w : qMem} {i : Nat} {r a : Int32} (hi : i < 12) (h : w 239 (15 + 7 * i + 4) = 0 ∨ w 239 (15 + 7 * i + 4) = 1) (h3 : (if 0 < w 239 (15 + 7 * i + 3) - 1 then w 239 (15 + 7 * i + 3) - 1 else 0) = (if w 239 (15 + 7 * i + 3) ≤ 0 then 0 else w 239 (15 + 7 * i + 3) - 1)) : fX6_swings w (nI i) r a = some (pLampR r a (pzS (w 239) i), qur w 239 (pzR (w 239) i (pLampN r a (pzS (w 239) i)))) := by
  unfold fX6_swings pLampR pLampN
  obtain ⟨o0, o1, o2, o3, o4, o5, o6⟩ := pz_of_ (w := w) hi
  simp only [o2, o4, o5, o3, pz_b]
  have e4 : pzS (w 239) i 4 = w 239 (15 + 7 * i + 4) := rfl
  have eS : ∀ s0 : Int32, fX6_swings_L69 w (nI i) s0 = some (if s0 ≤ 20 then 0 else 1, qur w 239 (pzR (w 239) i (upd (upd (pzS (w 239) i) 3 s0) 4 (if s0 ≤ 20 then 0 else 1)))) := by
    intro s0
    unfold fX6_swings_L69
    rw [(pz_set_ hi _).2.2.2.1, pz_b, (pz_set_ hi _).2.2.2.2.1, (pz_set_ hi _).2.2.2.2.1, pz_b, pz_b]
    rw [← pzR_u _ _ _ _ _ (by omega), ← pzR_u _ _ _ _ _ (by omega), pzR_s, pz_wr (w := w), pz_qq, pz_qq]
    split <;> rfl
  rw [e4]
  have k4 : ¬ (0 : Int32) = 1 := by decide
  have k4' : ¬ (1 : Int32) = 0 := by decide
  rcases h with h | h
  · simp only [h, k4, ↓reduceIte]
    simp only [eS, pz_nm, h3]
    have hs : pSw r a (pzS (w 239) i) = if w 239 (15 + 7 * i + 5) = a then (if r ≤ 0 then (if w 239 (15 + 7 * i + 3) ≤ 0 then 0 else w 239 (15 + 7 * i + 3) - 1) else (w 239 (15 + 7 * i + 3) + r) + (w 239 (15 + 7 * i + 2) - w 239 (15 + 7 * i + 2) / r * r)) / 2 else (if r ≤ 0 then (if w 239 (15 + 7 * i + 3) ≤ 0 then 0 else w 239 (15 + 7 * i + 3) - 1) else (w 239 (15 + 7 * i + 3) + r) + (w 239 (15 + 7 * i + 2) - w 239 (15 + 7 * i + 2) / r * r)) := rfl
    by_cases hr : r ≤ 0
    · simp only [hr, ↓reduceIte] at hs ⊢
      by_cases h5 : w 239 (15 + 7 * i + 5) = a
      · simp only [h5, ↓reduceIte] at hs ⊢
        rw [hs]
      · simp only [h5, ↓reduceIte] at hs ⊢
        rw [hs]
    · have hr0 : ¬ r = 0 := fun q => hr (by rw [q]; decide)
      simp only [hr, hr0, ↓reduceIte] at hs ⊢
      by_cases h5 : w 239 (15 + 7 * i + 5) = a
      · simp only [h5, ↓reduceIte] at hs ⊢
        rw [hs]
      · simp only [h5, ↓reduceIte] at hs ⊢
        rw [hs]
  · simp only [h, k4', ↓reduceIte]
    rw [pzR_s, pz_rs]
theorem pr_cat {w : qMem} {i : Nat} {r f : Int32} (hi : i < 12) (h2 : (if 0 < w 239 (15 + 7 * i + 2) - 1 then w 239 (15 + 7 * i + 2) - 1 else 0) = (if w 239 (15 + 7 * i + 2) ≤ 0 then 0 else w 239 (15 + 7 * i + 2) - 1)) (hd : (if 0 < pDist r (pzS (w 239) i) then pDist r (pzS (w 239) i) else 0) = (if 0 ≤ pDist r (pzS (w 239) i) then pDist r (pzS (w 239) i) else 0)) : fX6_marks w (nI i) r f = some (pCatM r f (pzS (w 239) i), qur w 239 (pzR (w 239) i (pCatN r f (pzS (w 239) i)))) := by
  unfold fX6_marks pCatN pCatM
  obtain ⟨o0, o1, o2, o3, o4, o5, o6⟩ := pz_of_ (w := w) hi
  have e2 : pzS (w 239) i 2 = w 239 (15 + 7 * i + 2) := rfl
  have e6 : pzS (w 239) i 6 = w 239 (15 + 7 * i + 6) := rfl
  have eD : (5 : Int32) - (if 0 ≤ w 239 (15 + 7 * i + 2) - r then w 239 (15 + 7 * i + 2) - r else 0 - (w 239 (15 + 7 * i + 2) - r)) = pDist r (pzS (w 239) i) := rfl
  have eS : ∀ v x5 : Int32, fX6_marks_L51 w (nI i) x5 v 2 (nI i) = some (x5, qur w 239 (pzR (w 239) i (upd (upd (pzS (w 239) i) 2 v) 6 (w 239 (15 + 7 * i + 6) + x5)))) := by
    intro v x5
    unfold fX6_marks_L51
    rw [(pz_set_ hi _).2.2.1, pz_b, (pz_of_ hi).2.2.2.2.2.2, pz_b, (pz_set_ hi _).2.2.2.2.2.2, pz_b, pz_wk (by omega)]
    rw [← pzR_u _ _ _ _ _ (by omega), ← pzR_u _ _ _ _ _ (by omega), pzR_s, pz_wr (w := w), pz_qq]
  simp only [o2, pz_b, pz_nm, eD]
  rw [hd]
  by_cases hf : f = 0
  · unfold fX6_marks_L29
    simp only [hf, ↓reduceIte]
    rw [eS]
    have e2' : upd (pzS (w 239) i) 2 (w 239 (15 + 7 * i + 2)) = pzS (w 239) i := pz_us _ _
    rw [e2']
    rfl
  · unfold fX6_marks_L29
    simp only [hf, ↓reduceIte, pz_nm]
    rw [eS, h2]
    congr 4
    funext j
    by_cases hj : j = 6
    · subst hj
      rw [pz_u, pz_un (by decide), Int32.add_zero]
      rfl
    · rw [pz_un hj]
      rfl
