-- thoughts: what a shock would do
theorem pSum_add (f g : Nat → Int32) : ∀ n, pSum (fun i => f i + g i) n = pSum f n + pSum g n
  | 0 => rfl
  | n + 1 => by
    simp only [pSum]
    rw [pSum_add f g n]
    ac_rfl
theorem pj_sub (x y : Int32) : x + y - x = y := by
  rw [Int32.add_comm, Int32.add_sub_cancel]
theorem pc_think {w : qMem} {T a : Nat} {S : pSt} (ha : a ≤ 9) (hW : pW T S) (H : pH w 0 S) : ∃ w2 w5 : qMem, fX0_copyFrom w 1 0 = some w2 ∧ fX0_performShock w2 1 (nI a) = some (pMa (sN S) a (sP S), w5) ∧ w5 19 9 - w5 0 9 = pBr (sN S) a (sP S) ∧ ∀ c, (c < 19 ∨ 38 ≤ c) → w5 c = w c := by
  obtain ⟨w2, e2, k2, k3⟩ := pc_copy (h := 1) (h1 := 0) (by decide) (by decide) (by decide) hW H
  obtain ⟨w5, e5, k5, k6⟩ := pc_shock (h := 1) (by decide) ha hW k2
  refine ⟨w2, w5, e2, e5, ?_, fun c hc => by rw [k6 c (by omega), k3 c (by omega)]⟩
  have h9 : w5 19 9 = sG S 4 + pBr (sN S) a (sP S) := k5.2.2.2 4 (by decide)
  have h0 : w5 0 9 = sG S 4 := by rw [k6 0 (by omega), k3 0 (by omega)]; exact H.2.2.2 4 (by decide)
  rw [h9, h0, pj_sub]
theorem pc_mt {w : qMem} {T a : Nat} {S : pSt} (ha : a ≤ 9) (hW : pW T S) (H : pH w 0 S) : ∃ w5 : qMem, fX5_marksInThought w (nI a) = some (pMa (sN S) a (sP S), w5) ∧ ∀ c, (c < 19 ∨ 38 ≤ c) → w5 c = w c := by
  obtain ⟨w2, w5, e2, e5, _, k⟩ := pc_think ha hW H
  refine ⟨w5, ?_, k⟩
  unfold fX5_marksInThought
  rw [e2, pz_b, e5, pz_b2]
theorem pc_bt {w : qMem} {T a : Nat} {S : pSt} (ha : a ≤ 9) (hW : pW T S) (H : pH w 0 S) : ∃ w5 : qMem, fX5_breakagesInThought w (nI a) = some (pBr (sN S) a (sP S), w5) ∧ ∀ c, (c < 19 ∨ 38 ≤ c) → w5 c = w c := by
  obtain ⟨w2, w5, e2, e5, e9, k⟩ := pc_think ha hW H
  refine ⟨w5, ?_, k⟩
  unfold fX5_breakagesInThought
  rw [e2, pz_b, e5, pz_b2, e9]
theorem pr_think (w : qMem) : ∃ w1 : qMem, fX6_thinks w = some w1 ∧ (∀ k, k < 99 → w1 241 k = w 239 k) ∧ ∀ c, c ≠ 241 → w1 c = w c := by
  unfold fX6_thinks
  rw [if_pos (by decide), pz_nm]
  exact ⟨_, rfl, fun k hk => by rw [pz_r, pv_row _ _ hk], fun c hc => pz_rn hc⟩
theorem pr_forget (w : qMem) : ∃ w1 : qMem, fX6_forgets w = some w1 ∧ (∀ k, k < 99 → w1 239 k = w 241 k) ∧ ∀ c, c ≠ 239 → w1 c = w c := by
  unfold fX6_forgets
  rw [if_pos (by decide), pz_nm]
  exact ⟨_, rfl, fun k hk => by rw [pz_r, pv_row _ _ hk], fun c hc => pz_rn hc⟩
/-- a look of the reference: its row comes back -/
def pOb (w w1 : qMem) : Prop := (∀ c, c ≠ 238 → c ≠ 239 → c ≠ 241 → w1 c = w c) ∧ (∀ k, k ≠ 11 → w1 238 k = w 238 k) ∧ ∀ k, k < 99 → w1 239 k = w 239 k
theorem pOb.tr {w w1 w2 : qMem} (a : pOb w w1) (b : pOb w1 w2) : pOb w w2 := ⟨fun c h1 h2 h3 => (b.1 c h1 h2 h3).trans (a.1 c h1 h2 h3), fun k hk => (b.2.1 k hk).trans (a.2.1 k hk), fun k hk => (b.2.2 k hk).trans (a.2.2 k hk)⟩
theorem pOb.rf (w : qMem) : pOb w w := ⟨fun _ _ _ _ => rfl, fun _ _ => rfl, fun _ _ => rfl⟩
theorem pr_would {w : qMem} {T a : Nat} {S : pSt} (m : Int32) (ha : a ≤ 9) (hW : pW T S) (H : pR (w 239) S) : ∃ w1 : qMem, fX6_would w (nI a) m = some (if m = 0 then pBr (sN S) a (sP S) else pMa (sN S) a (sP S), w1) ∧ pOb w w1 := by
  obtain ⟨w2, e2, t1, t2⟩ := pr_think w
  obtain ⟨w5, e5, s1, s2, s3, s4⟩ := pr_shock ha hW (w := w2) (by rw [t2 239 (by decide)]; exact H)
  obtain ⟨w7, e7, f1, f2⟩ := pr_forget w5
  refine ⟨w7, ?_, fun c h1 h2 h3 => by rw [f2 c h2, s2 c h1 h2, t2 c h3], fun k hk => by rw [f2 238 (by decide), s3 k hk, t2 238 (by decide)], fun k hk => by rw [f1 k hk, s2 241 (by decide) (by decide), t1 k hk]⟩
  unfold fX6_would
  rw [e2, pz_b, e5, pz_b2, e7, pz_b, f2 238 (by decide), s4]
  split <;> rfl
/-- a look of both keeps the invariant -/
theorem pI_look {T : Nat} {w w3 w9 : qMem} (H : pI T w) (h3 : ∀ c, ¬ (16 ≤ c ∧ c < 38) → w3 c = w c) (v : Int32) (h9 : pOb (quw w3 238 7 v) w9) : pI T w9 :=
  pI_obs H (fun c c1 c2 => by rw [h9.1 c (by omega) (by omega) (by omega), pz_wr, pz_rn (by omega), h3 c c2]) (fun k k1 k2 => by rw [h9.2.1 k k2, pz_wk k1, h3 238 (by omega)]) (fun k hk => by rw [h9.2.2 k hk, pz_wn (by decide), h3 239 (by omega)]) (fun c c1 => by rw [h9.1 c (by omega) (by omega) (by omega), pz_wr, pz_rn (by omega), h3 c (by omega)])
theorem pq_13 {T : Nat} {w : qMem} (a1 a2 a3 : Int32) (H : pI T w) : ∃ w1 : qMem, qs_13 w a1 a2 a3 = some w1 ∧ pI (T + 2000) w1 := by
  obtain ⟨S, hW, hH, hR⟩ := H.1
  unfold qs_13 fL_wouldMark fX5_wouldMark fX5_requireStrength
  rcases pj_str a1 with ⟨⟨a, x1, x9, ea⟩, q1, q2⟩ | ⟨q1, q2⟩
  · obtain ⟨w3, e3, k3⟩ := pc_mt x9 hW hH
    obtain ⟨w9, e9, k9⟩ := pr_would (w := quw w3 238 7 0) 1 x9 hW (by rw [pz_wr, pz_rn (by decide), k3 239 (by omega)]; exact hR)
    refine ⟨w9, ?_, (pI_look H (fun c hc => k3 c (by omega)) 0 k9).mo (by omega)⟩
    rw [q1, pz_b, if_neg (by decide), pz_b2, if_pos rfl, ea, e3, pz_b2]
    have : ∀ v : Int32, qlh [1] (0 : Int32) (some (0, v, w3)) = some (0, v, w3) := fun _ => rfl
    rw [this, pz_bn]; unfold fX6_wouldMark
    rw [← ea, q2, pz_b, if_neg (by decide), pz_nm, pz_w, if_pos (by decide), ea, e9, pz_b2, pz_b2, fX6_thrown, k9.2.1 7 (by decide), pz_w, pz_b, if_pos rfl, if_pos rfl, if_pos (if_neg (show ¬ (1 : Int32) = 0 by decide)).symm]
  · refine ⟨quw w 238 7 1, ?_, (pI_7 H 1).mo (by omega)⟩
    rw [q1, pz_b, if_pos rfl, pz_b2, if_neg (by decide)]
    have : qlh [1] (0 : Int32) (some (1, 0, w)) = some (1, 0, w) := rfl
    rw [this, pz_bn]; unfold fX6_wouldMark
    rw [q2, pz_b, if_pos rfl, pz_nm, pz_w, if_neg (by decide), pz_b2, fX6_thrown, pz_w, pz_b, if_pos rfl, if_neg (by decide)]
-- breakages prop by prop
theorem pt_40 : ∀ d, d < 4 → (((nI d = 2) ↔ d = 2) ∧ ((nI d + 1 < 3) ↔ d < 2)) := by decide +kernel
theorem pt_41 : ∀ d, d < 41 → ((20 < nI d) ↔ 20 < d) := by decide +kernel
theorem pWF.wb {T : Nat} {p : Nat → Int32} (h : pWF T p) (r a : Int32) : (if p 0 = 1 then (if p 3 = 2 then (if r < p 2 then (0 : Int32) else 1) else 0) else if p 0 = 2 then (if 20 < p 3 then 0 else (if pSw r a p ≤ 20 then 0 else 1)) else 0) = (if p 0 = 1 then pCupR r p else 0) + (if p 0 = 2 then pLampR r a p else 0) := by
  obtain ⟨f, m, d, c, t, ⟨b1, b2, b3, b4⟩, h1, h2, h3, h5, h6, h | h | h⟩ := h
  · obtain ⟨h0, hm, hd, e4, hc⟩ := h
    obtain ⟨t1, t2⟩ := pt_40 d (by omega)
    rw [if_pos h0, if_pos h0, h0, if_neg (show ¬ (1 : Int32) = 2 by decide), Int32.add_zero]
    unfold pCupR
    rw [e4, h3]
    by_cases z : d = 2
    · rw [if_pos (t1.mpr z), if_neg (show ¬ d = 3 by omega), if_pos rfl, if_neg (show ¬ nI d + 1 < 3 from fun y => by have := t2.mp y; omega)]
    · rw [if_neg (fun y => z (t1.mp y))]
      by_cases z3 : d = 3
      · rw [if_pos z3, if_neg (by decide)]
      · rw [if_neg z3, if_pos rfl, if_pos (t2.mpr (by omega))]
        split <;> rfl
  · obtain ⟨h0, hm, hd, e4⟩ := h
    have t1 := pt_41 d (by omega)
    rw [h0, if_neg (show ¬ (2 : Int32) = 1 by decide), if_pos rfl, if_neg (show ¬ (2 : Int32) = 1 by decide), if_pos rfl, Int32.zero_add]
    unfold pLampR
    rw [e4, h3]
    by_cases z : 20 < d
    · rw [if_pos (t1.mpr z), if_pos z, if_neg (by decide)]
    · rw [if_neg (fun y => z (t1.mp y)), if_neg z, if_pos rfl]
  · rw [h.1]; rfl
theorem pAg.wb {w : qMem} {c : Nat} {p : Nat → Int32} (h : pAg (w c) p) (r a : Int32) : fX3_wouldBreakBy w c r a = some (if p 0 = 1 then (if p 3 = 2 then (if r < p 2 then (0 : Int32) else 1) else 0) else if p 0 = 2 then (if 20 < p 3 then 0 else (if pSw r a p ≤ 20 then 0 else 1)) else 0) := by
  unfold fX3_wouldBreakBy
  rw [h 0 (by decide), h 3 (by decide), h 2 (by decide), pc_sw, pz_b, h.sw]
  by_cases z : p 0 = 1
  · rw [if_pos z, if_pos z]
    split
    · split <;> rfl
    · rfl
  · rw [if_neg z, if_neg z]
    split
    · split
      · rfl
      · split <;> rfl
    · rfl
theorem pc_bp_ {w : qMem} {h T a : Nat} {S : pSt} (hh : h < 12) (ha : a ≤ 9) (hW : pW T S) (H : pH w h S) : ∀ (d i fuel : Nat), i + d = sN S → d < fuel → fX0_breakagesPropByProp_L4 w h fuel (nI a) (pSum (fun j => pBc (pRe (sP S) (sN S) a) (sP S) j + pBl (pRe (sP S) (sN S) a) (nI a) (pP1 (sN S) a (sP S)) j) i) (nI i) = some (pBr (sN S) a (sP S))
  | 0, i, fuel + 1, e, _ => by
    have hn := hW.1
    have e : i = sN S := by omega
    subst e
    simp only [fX0_breakagesPropByProp_L4]
    rw [if_pos (by rw [H.1.1]; exact pz_ge (Nat.le_refl _) (by omega)), pSum_add]
    rfl
  | d + 1, i, fuel + 1, e, hf => by
    have hn := hW.1
    have hi : i < sN S := by omega
    have hA := H.1.2 i hi
    have hWi := hW.2.1 i hi
    obtain ⟨f0, hf0, e0⟩ := hWi.fl
    have efl : (sP S i 1).toNatClampNeg = f0 := by rw [e0]; exact pz_nI (by omega)
    simp only [fX0_breakagesPropByProp_L4, pz_at hh hn hi H.1.1, pz_b, pz_nm]
    rw [if_neg (by rw [H.1.1]; exact nI_ge hi (by omega)), if_pos (pz_P hh (by omega)), hA 1 (by decide), e0, pc_ra hh hn H.1 ha (by omega), pz_b, hA.wb, pz_b, hWi.wb, nI_1]
    have ih := pc_bp_ hh ha hW H d (i + 1) fuel (by omega) (by omega)
    have eB : pBc (pRe (sP S) (sN S) a) (sP S) i = if sP S i 0 = 1 then pCupR (nI (pRe (sP S) (sN S) a f0)) (sP S i) else 0 := by unfold pBc; rw [efl]
    have eL : pBl (pRe (sP S) (sN S) a) (nI a) (pP1 (sN S) a (sP S)) i = if sP S i 0 = 2 then pLampR (nI (pRe (sP S) (sN S) a f0)) (nI a) (sP S i) else 0 := by
      unfold pBl
      rw [(pP1_0 (sN S) a (sP S) i).1, (pP1_0 (sN S) a (sP S) i).2, efl]
      by_cases z : sP S i 0 = 2
      · rw [if_pos z, if_pos z]
        have : pP1 (sN S) a (sP S) i = sP S i := by unfold pP1 pNc; rw [if_neg (by rw [z]; decide)]
        rw [this]
      · rw [if_neg z, if_neg z]
    rw [← eB, ← eL]
    have eS : pSum (fun j => pBc (pRe (sP S) (sN S) a) (sP S) j + pBl (pRe (sP S) (sN S) a) (nI a) (pP1 (sN S) a (sP S)) j) (i + 1) = pSum (fun j => pBc (pRe (sP S) (sN S) a) (sP S) j + pBl (pRe (sP S) (sN S) a) (nI a) (pP1 (sN S) a (sP S)) j) i + (pBc (pRe (sP S) (sN S) a) (sP S) i + pBl (pRe (sP S) (sN S) a) (nI a) (pP1 (sN S) a (sP S)) i) := rfl
    rw [eS] at ih
    have hb : pBc (pRe (sP S) (sN S) a) (sP S) i + pBl (pRe (sP S) (sN S) a) (nI a) (pP1 (sN S) a (sP S)) i = 0 ∨ pBc (pRe (sP S) (sN S) a) (sP S) i + pBl (pRe (sP S) (sN S) a) (nI a) (pP1 (sN S) a (sP S)) i = 1 := by
      rw [eB, eL]
      by_cases z1 : sP S i 0 = 1
      · rw [if_pos z1, if_neg (by rw [z1]; decide), Int32.add_zero]; exact pCupR_b _ _
      · rw [if_neg z1, Int32.zero_add]
        split
        · exact pLampR_b _ _ _
        · exact Or.inl rfl
    rcases hb with z | z
    · rw [z, Int32.add_zero] at ih
      rw [z, if_pos rfl]; exact ih
    · rw [z] at ih
      rw [z, if_neg (by decide)]; exact ih
theorem pc_bp {w : qMem} {h T a : Nat} {S : pSt} (hh : h < 12) (ha : a ≤ 9) (hW : pW T S) (H : pH w h S) : fX0_breakagesPropByProp w h (nI a) = some (pBr (sN S) a (sP S)) :=
  pc_bp_ hh ha hW H (sN S) 0 100 (by omega) (by have := hW.1; omega)
theorem pq_14 {T : Nat} {w : qMem} (a1 a2 a3 : Int32) (H : pI T w) : ∃ w1 : qMem, qs_14 w a1 a2 a3 = some w1 ∧ pI (T + 2000) w1 := by
  obtain ⟨S, hW, hH, hR⟩ := H.1
  generalize hx : (if a2 = 0 then (0 : Int32) else 1) = x
  unfold qs_14 fL_wouldBreak fX5_wouldBreak fX5_requireStrength
  rw [hx]
  rcases pj_str a1 with ⟨⟨a, x1, x9, ea⟩, q1, q2⟩ | ⟨q1, q2⟩
  · have hC : ∃ w3 : qMem, (if x = 0 then qbd2 (fX5_breakagesInThought w a1) fun (r7 : Int32) (w8 : qMem) => some ((0 : Nat), r7, w8) else qbd (fX0_breakagesPropByProp w 0 a1) fun (r10 : Int32) => some (0, r10, w)) = some (0, pBr (sN S) a (sP S), w3) ∧ ∀ c, (c < 19 ∨ 38 ≤ c) → w3 c = w c := by
      by_cases z : x = 0
      · obtain ⟨w3, e3, k3⟩ := pc_bt x9 hW hH
        exact ⟨w3, by rw [if_pos z, ea, e3, pz_b2], k3⟩
      · exact ⟨w, by rw [if_neg z, ea, pc_bp (h := 0) (by decide) x9 hW hH, pz_b], fun _ _ => rfl⟩
    obtain ⟨w3, e3, k3⟩ := hC
    obtain ⟨w9, e9, k9⟩ := pr_would (w := quw w3 238 7 0) 0 x9 hW (by rw [pz_wr, pz_rn (by decide), k3 239 (by omega)]; exact hR)
    refine ⟨w9, ?_, (pI_look H (fun c hc => k3 c (by omega)) 0 k9).mo (by omega)⟩
    rw [q1, pz_b, if_neg (by decide), pz_b2, if_pos rfl, e3]
    have : ∀ v : Int32, qlh [1] (0 : Int32) (some (0, v, w3)) = some (0, v, w3) := fun _ => rfl
    rw [this, pz_bn]; unfold fX6_wouldBreak
    rw [q2, pz_b, if_neg (by decide), pz_nm, pz_w, if_pos (by decide), ea, e9, pz_b2, pz_b2, fX6_thrown, k9.2.1 7 (by decide), pz_w, pz_b, if_pos rfl, if_pos rfl, if_pos rfl, if_pos rfl]
  · refine ⟨quw w 238 7 1, ?_, (pI_7 H 1).mo (by omega)⟩
    rw [q1, pz_b, if_pos rfl, pz_b2, if_neg (by decide)]
    have : qlh [1] (0 : Int32) (some (1, 0, w)) = some (1, 0, w) := rfl
    rw [this, pz_bn]; unfold fX6_wouldBreak
    rw [q2, pz_b, if_pos rfl, pz_nm, pz_w, if_neg (by decide), pz_b2, fX6_thrown, pz_w, pz_b, if_pos rfl, if_neg (by decide)]
