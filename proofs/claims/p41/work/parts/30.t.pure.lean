-- thoughts: what a shock would do
theorem pSum_add (f g : Nat → Int32) : ∀ n, pSum (fun i => f i + g i) n = pSum f n + pSum g n
  | 0 => rfl
  | n + 1 => by
    simp only [pSum]
    rw [pSum_add f g n]
    ac_rfl
theorem pj_sub (x y : Int32) : x + y - x = y := by
  rw [Int32.add_comm, Int32.add_sub_cancel]
theorem pc_think {w : qMem} {T a : Nat} {S : pSt} (ha : a ≤ 9) (hW : pW T S) (H : pH w 0 S) : ∃ w2 w5 : qMem, fX0_copyFrom w 1 0 = some w2 ∧ fX0_performShock w2 1 (nI a) = some (pMa (sN S) a (sP S), w5) ∧ w5 19 9 - w5 0 9 = pBr (sN S) a (sP S) ∧ ∀ c, (c < 19 ∨ 38 ≤ c) → w5 c = w c := by
  obtain ⟨w2, e2, k2, k3⟩ := pc_copy (h := 1) (h1 := 0) (by decide) (by decide) (by decide) hW H
  obtain ⟨w5, e5, k5, k6⟩ := pc_shock (h := 1) (by decide) ha hW k2
  refine ⟨w2, w5, e2, e5, ?_, fun c hc => by rw [k6 c (by omega), k3 c (by omega)]⟩
  have h9 : w5 19 9 = sG S 4 + pBr (sN S) a (sP S) := k5.2.2.2 4 (by decide)
  have h0 : w5 0 9 = sG S 4 := by rw [k6 0 (by omega), k3 0 (by omega)]; exact H.2.2.2 4 (by decide)
  rw [h9, h0, pj_sub]
theorem pc_mt {w : qMem} {T a : Nat} {S : pSt} (ha : a ≤ 9) (hW : pW T S) (H : pH w 0 S) : ∃ w5 : qMem, fX5_marksInThought w (nI a) = some (pMa (sN S) a (sP S), w5) ∧ ∀ c, (c < 19 ∨ 38 ≤ c) → w5 c = w c := by
  obtain ⟨w2, w5, e2, e5, _, k⟩ := pc_think ha hW H
  refine ⟨w5, ?_, k⟩
  unfold fX5_marksInThought
  rw [e2, pz_b, e5, pz_b2]
theorem pc_bt {w : qMem} {T a : Nat} {S : pSt} (ha : a ≤ 9) (hW : pW T S) (H : pH w 0 S) : ∃ w5 : qMem, fX5_breakagesInThought w (nI a) = some (pBr (sN S) a (sP S), w5) ∧ ∀ c, (c < 19 ∨ 38 ≤ c) → w5 c = w c := by
  obtain ⟨w2, w5, e2, e5, e9, k⟩ := pc_think ha hW H
  refine ⟨w5, ?_, k⟩
  unfold fX5_breakagesInThought
  rw [e2, pz_b, e5, pz_b2, e9]
-- breakages prop by prop
theorem pt_40 : ∀ d, d < 4 → (((nI d = 2) ↔ d = 2) ∧ ((nI d + 1 < 3) ↔ d < 2)) := by decide +kernel
theorem pt_41 : ∀ d, d < 41 → ((20 < nI d) ↔ 20 < d) := by decide +kernel
theorem pWF.wb {T : Nat} {p : Nat → Int32} (h : pWF T p) (r a : Int32) : (if p 0 = 1 then (if p 3 = 2 then (if r < p 2 then (0 : Int32) else 1) else 0) else if p 0 = 2 then (if 20 < p 3 then 0 else (if pSw r a p ≤ 20 then 0 else 1)) else 0) = (if p 0 = 1 then pCupR r p else 0) + (if p 0 = 2 then pLampR r a p else 0) := by
  obtain ⟨f, m, d, c, t, ⟨b1, b2, b3, b4⟩, h1, h2, h3, h5, h6, h | h | h⟩ := h
  · obtain ⟨h0, hm, hd, e4, hc⟩ := h
    obtain ⟨t1, t2⟩ := pt_40 d (by omega)
    rw [if_pos h0, if_pos h0, h0, if_neg (show ¬ (1 : Int32) = 2 by decide), Int32.add_zero]
    unfold pCupR
    rw [e4, h3]
    by_cases z : d = 2
    · rw [if_pos (t1.mpr z), if_neg (show ¬ d = 3 by omega), if_pos rfl, if_neg (show ¬ nI d + 1 < 3 from fun y => by have := t2.mp y; omega)]
    · rw [if_neg (fun y => z (t1.mp y))]
      by_cases z3 : d = 3
      · rw [if_pos z3, if_neg (by decide)]
      · rw [if_neg z3, if_pos rfl, if_pos (t2.mpr (by omega))]
        split <;> rfl
  · obtain ⟨h0, hm, hd, e4⟩ := h
    have t1 := pt_41 d (by omega)
    rw [h0, if_neg (show ¬ (2 : Int32) = 1 by decide), if_pos rfl, if_neg (show ¬ (2 : Int32) = 1 by decide), if_pos rfl, Int32.zero_add]
    unfold pLampR
    rw [e4, h3]
    by_cases z : 20 < d
    · rw [if_pos (t1.mpr z), if_pos z, if_neg (by decide)]
    · rw [if_neg (fun y => z (t1.mp y)), if_neg z, if_pos rfl]
  · rw [h.1]; rfl
theorem pAg.wb {w : qMem} {c : Nat} {p : Nat → Int32} (h : pAg (w c) p) (r a : Int32) : fX3_wouldBreakBy w c r a = some (if p 0 = 1 then (if p 3 = 2 then (if r < p 2 then (0 : Int32) else 1) else 0) else if p 0 = 2 then (if 20 < p 3 then 0 else (if pSw r a p ≤ 20 then 0 else 1)) else 0) := by
  unfold fX3_wouldBreakBy
  rw [h 0 (by decide), h 3 (by decide), h 2 (by decide), pc_sw, pz_b, h.sw]
  by_cases z : p 0 = 1
  · rw [if_pos z, if_pos z]
    split
    · split <;> rfl
    · rfl
  · rw [if_neg z, if_neg z]
    split
    · split
      · rfl
      · split <;> rfl
    · rfl
theorem pc_bp_ {w : qMem} {h T a : Nat} {S : pSt} (hh : h < 12) (ha : a ≤ 9) (hW : pW T S) (H : pH w h S) : ∀ (d i fuel : Nat), i + d = sN S → d < fuel → fX0_breakagesPropByProp_L4 w h fuel (nI a) (pSum (fun j => pBc (pRe (sP S) (sN S) a) (sP S) j + pBl (pRe (sP S) (sN S) a) (nI a) (pP1 (sN S) a (sP S)) j) i) (nI i) = some (pBr (sN S) a (sP S))
  | 0, i, fuel + 1, e, _ => by
    have hn := hW.1
    have e : i = sN S := by omega
    subst e
    simp only [fX0_breakagesPropByProp_L4]
    rw [if_pos (by rw [H.1.1]; exact pz_ge (Nat.le_refl _) (by omega)), pSum_add]
    rfl
  | d + 1, i, fuel + 1, e, hf => by
    have hn := hW.1
    have hi : i < sN S := by omega
    have hA := H.1.2 i hi
    have hWi := hW.2.1 i hi
    obtain ⟨f0, hf0, e0⟩ := hWi.fl
    have efl : (sP S i 1).toNatClampNeg = f0 := by rw [e0]; exact pz_nI (by omega)
    simp only [fX0_breakagesPropByProp_L4, pz_at hh hn hi H.1.1, pz_b, pz_nm]
    rw [if_neg (by rw [H.1.1]; exact nI_ge hi (by omega)), if_pos (pz_P hh (by omega)), hA 1 (by decide), e0, pc_ra hh hn H.1 ha (by omega), pz_b, hA.wb, pz_b, hWi.wb, nI_1]
    have ih := pc_bp_ hh ha hW H d (i + 1) fuel (by omega) (by omega)
    have eB : pBc (pRe (sP S) (sN S) a) (sP S) i = if sP S i 0 = 1 then pCupR (nI (pRe (sP S) (sN S) a f0)) (sP S i) else 0 := by unfold pBc; rw [efl]
    have eL : pBl (pRe (sP S) (sN S) a) (nI a) (pP1 (sN S) a (sP S)) i = if sP S i 0 = 2 then pLampR (nI (pRe (sP S) (sN S) a f0)) (nI a) (sP S i) else 0 := by
      unfold pBl
      rw [(pP1_0 (sN S) a (sP S) i).1, (pP1_0 (sN S) a (sP S) i).2, efl]
      by_cases z : sP S i 0 = 2
      · rw [if_pos z, if_pos z]
        have : pP1 (sN S) a (sP S) i = sP S i := by unfold pP1 pNc; rw [if_neg (by rw [z]; decide)]
        rw [this]
      · rw [if_neg z, if_neg z]
    rw [← eB, ← eL]
    have eS : pSum (fun j => pBc (pRe (sP S) (sN S) a) (sP S) j + pBl (pRe (sP S) (sN S) a) (nI a) (pP1 (sN S) a (sP S)) j) (i + 1) = pSum (fun j => pBc (pRe (sP S) (sN S) a) (sP S) j + pBl (pRe (sP S) (sN S) a) (nI a) (pP1 (sN S) a (sP S)) j) i + (pBc (pRe (sP S) (sN S) a) (sP S) i + pBl (pRe (sP S) (sN S) a) (nI a) (pP1 (sN S) a (sP S)) i) := rfl
    rw [eS] at ih
    have hb : pBc (pRe (sP S) (sN S) a) (sP S) i + pBl (pRe (sP S) (sN S) a) (nI a) (pP1 (sN S) a (sP S)) i = 0 ∨ pBc (pRe (sP S) (sN S) a) (sP S) i + pBl (pRe (sP S) (sN S) a) (nI a) (pP1 (sN S) a (sP S)) i = 1 := by
      rw [eB, eL]
      by_cases z1 : sP S i 0 = 1
      · rw [if_pos z1, if_neg (by rw [z1]; decide), Int32.add_zero]; exact pCupR_b _ _
      · rw [if_neg z1, Int32.zero_add]
        split
        · exact pLampR_b _ _ _
        · exact Or.inl rfl
    rcases hb with z | z
    · rw [z, Int32.add_zero] at ih
      rw [z, if_pos rfl]; exact ih
    · rw [z] at ih
      rw [z, if_neg (by decide)]; exact ih
theorem pc_bp {w : qMem} {h T a : Nat} {S : pSt} (hh : h < 12) (ha : a ≤ 9) (hW : pW T S) (H : pH w h S) : fX0_breakagesPropByProp w h (nI a) = some (pBr (sN S) a (sP S)) :=
  pc_bp_ hh ha hW H (sN S) 0 100 (by omega) (by have := hW.1; omega)
