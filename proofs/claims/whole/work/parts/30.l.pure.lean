theorem pH_28 {w : qMem} {T : Nat} {S : pSt} (v : Int32) (hW : pW T S) (H : pH w 0 S) : pH (quw w 228 10 v) 0 S := ph_same hW (fun c _ h2 => by rw [pz_wr, pz_rn (by omega)]) H
-- add
def sAdd (a : Nat) (S : pSt) : pSt := (sN S, sP S, sQ S + 1, upd (sL S) (sQ S) (nI a), sG S)
theorem po_add (T : Nat) (a b : Int32) : pDo T 8 a b (fun w => fX6_doAdd w a) (fun t => if t = 2 then 1 else if t = 3 then 2 else 0) := by
  intro S hW
  have hq := hW.2.2.1
  have hO : ∀ w : qMem, fX5_tryOrder w 8 a b = qbd2 (fX5_tryAdding w a) fun (r34 : Int32) (w35 : qMem) => some (r34, w35) := fun w => by
    unfold fX5_tryOrder
    rw [if_neg (by decide), if_neg (by decide), if_neg (by decide), if_neg (by decide), if_neg (by decide), if_neg (by decide), if_neg (by decide), if_pos rfl]
  rcases pj_str a with ⟨⟨x, x1, x9, ex⟩, q1, q2⟩ | ⟨q1, q2⟩
  · by_cases hz : sQ S = 8
    · refine ⟨3, 0, 1, 8, S, hW.mo (by omega), by decide, fun _ => ⟨rfl, by decide⟩, fun w H => ?_, fun w H => ?_⟩
      · refine ⟨_, ?_, pOc.rf 0 1 8 hW H⟩
        have e4 : w 0 4 = 8 := by have := H.2.1; rw [hz] at this; exact this
        rw [hO]; unfold fX5_tryAdding
        rw [q1, pz_b, if_neg (by decide), e4, if_neg (by decide), pc_ref, pz_b2, pz_b2]
      · refine ⟨0, _, ?_, pOr.rf 0 1 8 0 H⟩
        have e4 : w 239 6 = 8 := by have := H.2.1; rw [hz] at this; exact this
        show fX6_doAdd w a = _
        unfold fX6_doAdd
        rw [pz_nm, q2, pz_b, if_neg (by decide), e4, if_pos rfl, pr_ref, pz_b2]; rfl
    · have hq8 : sQ S < 8 := by omega
      refine ⟨0, nI (sQ S + 1), 0, 0, sAdd x S, ?_, by decide, fun q => absurd rfl q, fun w H => ?_, fun w H => ?_⟩
      · obtain ⟨h1, h2, h3, h4, h5, h6⟩ := hW.mo (T' := T + 100) (by omega)
        refine ⟨h1, h2, hq8, fun j hj => ?_, h5, h6⟩
        by_cases z : j = sQ S
        · subst z; exact ⟨x, x1, x9, (pz_u : upd (sL S) (sQ S) (nI x) (sQ S) = nI x)⟩
        · obtain ⟨y, y1, y2, y3⟩ := h4 j (by have : j < sQ S + 1 := hj; omega)
          exact ⟨y, y1, y2, (pz_un z : upd (sL S) (sQ S) (nI x) j = sL S j).trans y3⟩
      · have e4 : w 0 4 = nI (sQ S) := H.2.1
        refine ⟨quw (quw (quw w 15 (sQ S) a) 0 4 (nI (sQ S + 1))) 228 10 (nI (sQ S + 1)), ?_, pOc.ok 0 0 ?_ (fun c c1 c2 => ?_) ?_⟩
        · rw [hO]; unfold fX5_tryAdding fX0_plan
          have e4' : w (19 * 0) 4 = nI (sQ S) := e4
          rw [q1, pz_b, if_neg (by decide), e4, if_pos (show nI (sQ S) < (8 : Int32) from nI_lt (b := 8) hq8 (by decide)), if_neg (nI_pos (by omega)), if_neg (show ¬ (8 : Int32) ≤ nI (sQ S) from nI_ge (b := 8) hq8 (by decide)), if_pos (pz_qin hq8 (by decide)), pz_nI (by omega), pz_nm, pz_nm, pz_w, pz_wn (by decide), e4', nI_1, pz_b2, pc_ans, pz_b2, pz_b2]
        · obtain ⟨⟨H1, H2⟩, H3, H4, H5⟩ := H
          have hn := hW.1
          refine ⟨⟨?_, fun i hi k hk => ?_⟩, ?_, fun j hj => ?_, fun k hk => ?_⟩
          · rw [pz_wn (by decide), pz_wk (by decide), pz_wn (by decide)]; exact H1
          · have hi' : i < sN S := hi
            rw [pz_wn (by omega), pz_wn (by omega), pz_wn (by omega)]; exact H2 i hi k hk
          · rw [pz_wn (by decide), pz_w]; rfl
          · rw [pz_wn (by decide), pz_wn (by decide)]
            show quw w 15 (sQ S) a 15 j = upd (sL S) (sQ S) (nI x) j
            by_cases z : j = sQ S
            · subst z; rw [pz_w, pz_u, ex]
            · rw [pz_wk z, pz_un z]; exact H4 j (by have : j < sQ S + 1 := hj; omega)
          · rw [pz_wn (by decide), pz_wk (by omega), pz_wn (by decide)]; exact H5 k hk
        · rw [pz_wr, pz_rn c2, pz_wr, pz_rn (by omega), pz_wr, pz_rn (by omega)]
        · rw [pz_wr, pz_r, pz_wr, pz_rn (by decide), pz_wr, pz_rn (by decide)]
      · have e4 : w 239 6 = nI (sQ S) := H.2.1
        have e7 : (7 : Int32) + nI (sQ S) = nI (7 + sQ S) := nI_add 7 _
        refine ⟨nI (sQ S + 1), quw (quw w 239 (7 + sQ S) a) 239 6 (nI (sQ S + 1)), ?_, pOr.ok _ 0 0 ?_ (fun c c1 c2 => ?_) (fun k _ => ?_)⟩
        · show fX6_doAdd w a = _
          unfold fX6_doAdd
          rw [pz_nm, q2, pz_b, if_neg (by decide), e4, if_neg (fun z => hz ((nI_eq (by omega) (by decide)).mp (z.trans (show (8 : Int32) = nI 8 from rfl)))), e7, if_pos (pz_qin (by omega) (by decide)), pz_nI (by omega), pz_nm, pz_nm, pz_wk (by omega), e4, nI_1]
        · obtain ⟨⟨H1, H2⟩, H3, H4, H5⟩ := H
          refine ⟨⟨?_, fun i hi k hk => ?_⟩, ?_, fun j hj => ?_, fun k hk => ?_⟩
          · rw [pz_wk (by decide), pz_wk (by omega)]; exact H1
          · unfold pzS; rw [pz_wk (by omega), pz_wk (by omega)]; exact H2 i hi k hk
          · rw [pz_w]; rfl
          · rw [pz_wk (by omega)]
            show quw w 239 (7 + sQ S) a 239 (7 + j) = upd (sL S) (sQ S) (nI x) j
            by_cases z : j = sQ S
            · subst z; rw [pz_w, pz_u, ex]
            · rw [pz_wk (by omega), pz_un z]; exact H4 j (by have : j < sQ S + 1 := hj; omega)
          · rw [pz_wk (by omega), pz_wk (by omega)]; exact H5 k hk
        · rw [pz_wr, pz_rn c2, pz_wr, pz_rn c2]
        · rw [pz_wn (by decide), pz_wn (by decide)]
  · refine ⟨2, 0, 0, 0, S, hW.mo (by omega), by decide, fun _ => ⟨rfl, by decide⟩, fun w H => ?_, fun w H => ?_⟩
    · refine ⟨w, ?_, pOc.no 0 0 0 H (by decide) (by decide)⟩
      rw [hO]; unfold fX5_tryAdding
      rw [q1, pz_b, if_pos rfl, pz_b2]
    · refine ⟨0, _, ?_, pOr.no 0 0 0 0 H (by decide) (by decide)⟩
      show fX6_doAdd w a = _
      unfold fX6_doAdd
      rw [pz_nm, q2, pz_b, if_pos rfl, pr_fail, pz_b2]; rfl
-- quiet
def pNq (P : Nat → Nat → Int32) (i : Nat) : Nat → Int32 := if P i 0 = 2 ∧ P i 4 = 0 then upd (P i) 3 (P i 3 / 2) else P i
def pDq (P : Nat → Nat → Int32) (i : Nat) : Int32 := if P i 0 = 2 ∧ P i 4 = 0 then P i 3 / 2 else 0
def sQui (S : pSt) : pSt := (sN S, pNq (sP S), sQ S, sL S, sG S)
theorem pNq_W {T : Nat} {P : Nat → Nat → Int32} {i : Nat} (h : pWF T (P i)) : pWF T (pNq P i) := by
  unfold pNq
  split
  · rename_i hz
    obtain ⟨f, m, d, c, t, ⟨b1, b2, b3, b4⟩, h1, h2, h3, h5, h6, h | h | h⟩ := h
    · exact absurd (h.1.symm.trans hz.1) (by decide)
    · obtain ⟨_, hm, hd, e4⟩ := h
      have hd2 : d ≤ 20 := by
        by_cases q : 20 < d
        · rw [e4, if_pos q] at hz; exact absurd hz.2 (by decide)
        · omega
      refine ⟨f, m, d / 2, c, t, ⟨b1, b2, b3, b4⟩, h1, h2, ?_, h5, h6, Or.inr (Or.inl ⟨hz.1, hm, by omega, ?_⟩)⟩
      · rw [pz_u, h3, pt_7 d (by omega)]
      · rw [if_neg (by omega)]; exact hz.2
    · exact absurd (h.1.symm.trans hz.1) (by decide)
  · exact h
theorem pNq_0 (P : Nat → Nat → Int32) (i : Nat) : pNq P i 0 = P i 0 ∧ pNq P i 1 = P i 1 := by
  unfold pNq; split
  · exact ⟨rfl, rfl⟩
  · exact ⟨rfl, rfl⟩
theorem sQui_W {T : Nat} {S : pSt} (H : pW T S) : pW T (sQui S) := by
  obtain ⟨h1, h2, h3, h4, h5, h6⟩ := H
  refine ⟨h1, fun i hi => pNq_W (h2 i hi), h3, h4, h5, fun f hf k hk => ?_⟩
  have e : pCn (sP (sQui S)) k (nI f) (sN S) = pCn (sP S) k (nI f) (sN S) := pCn_eq k (nI f) _ (fun i _ => pNq_0 _ i)
  show pCn (sP (sQui S)) k (nI f) (sN S) ≤ 5
  rw [e]; exact h6 f hf k hk
theorem pc_calm {h n T : Nat} {P : Nat → Nat → Int32} (hh : h < 12) (hn : n ≤ 12) (hW : ∀ i, i < n → pWF T (P i)) : ∀ (d i fuel : Nat) (w : qMem), i + d = n → d < fuel → w (19 * h) 2 = nI n → (∀ j, j < n → pAg (w (19 * h + 2 + j)) (if j < i then pNq P j else P j)) → ∃ w1 : qMem, fX0_calm_L4 h fuel w (pSum (pDq P) i) (nI i) = some (pSum (pDq P) n, w1) ∧ (∀ c, (c < 19 * h + 2 ∨ 19 * h + 14 ≤ c) → w1 c = w c) ∧ ∀ j, j < n → pAg (w1 (19 * h + 2 + j)) (pNq P j)
  | 0, i, fuel + 1, w, e, _, h2, H => by
    have e : i = n := by omega
    subst e
    refine ⟨w, ?_, fun _ _ => rfl, fun j hj => ?_⟩
    · simp only [fX0_calm_L4]
      rw [if_pos (by rw [h2]; exact pz_ge (Nat.le_refl i) (by omega))]
    · have := H j hj
      rw [if_pos hj] at this; exact this
  | d + 1, i, fuel + 1, w, e, hf, h2, H => by
    have hi : i < n := by omega
    have hA : pAg (w (19 * h + 2 + i)) (P i) := by have := H i hi; rw [if_neg (by omega)] at this; exact this
    simp only [fX0_calm_L4, pz_at hh hn hi h2, pz_b, pz_nm]
    rw [if_neg (by rw [h2]; exact nI_ge hi (by omega)), if_pos (pz_P hh (by omega)), hA 0 (by decide), hA 4 (by decide), hA 3 (by decide), nI_1]
    by_cases hz : P i 0 = 2 ∧ P i 4 = 0
    · have eN : pNq P i = upd (P i) 3 (P i 3 / 2) := by unfold pNq; rw [if_pos hz]
      have eD : pSum (pDq P) (i + 1) = pSum (pDq P) i + P i 3 / 2 := by simp only [pSum]; congr 1; unfold pDq; rw [if_pos hz]
      obtain ⟨w1, g1, g2, g3⟩ := pc_calm hh hn hW d (i + 1) fuel (quw w (19 * h + 2 + i) 3 (P i 3 / 2)) (by omega) (by omega) (by rw [pz_wn (by omega)]; exact h2) (pz_stepA H (fun j hj hk => by rw [pz_wr, pz_rn (by omega)]) (by rw [pz_wr, pz_r, eN]; exact hA.up 3 rfl))
      refine ⟨w1, ?_, fun c hc => (g2 c hc).trans (pz_rn (by omega)), g3⟩
      rw [if_pos hz.1, if_pos hz.2, pz_w, ← eD]; exact g1
    · have eN : pNq P i = P i := by unfold pNq; rw [if_neg hz]
      have eD : pSum (pDq P) (i + 1) = pSum (pDq P) i := by
        simp only [pSum]
        have : pDq P i = 0 := by unfold pDq; rw [if_neg hz]
        rw [this, Int32.add_zero]
      obtain ⟨w1, g1, g2, g3⟩ := pc_calm hh hn hW d (i + 1) fuel w (by omega) (by omega) h2 (pz_stepA H (fun _ _ _ => rfl) (by rw [eN]; exact hA))
      refine ⟨w1, ?_, g2, g3⟩
      rw [eD] at g1
      by_cases k0 : P i 0 = 2
      · rw [if_pos k0, if_neg (fun z => hz ⟨k0, z⟩)]; exact g1
      · rw [if_neg k0]; exact g1
theorem pr_qui {n T : Nat} {P : Nat → Nat → Int32} (hn : n ≤ 12) (hW : ∀ i, i < n → pWF T (P i)) : ∀ (d i fuel : Nat) (w : qMem), i + d = n → d < fuel → w 239 0 = nI n → (∀ j, j < n → pAg (pzS (w 239) j) (if j < i then pNq P j else P j)) → ∃ w1 : qMem, fX6_doQuiet_L4 fuel w (pSum (pDq P) i) (nI i) = some (pSum (pDq P) n, w1) ∧ (∀ c, c ≠ 239 → w1 c = w c) ∧ (∀ k, k < 15 → w1 239 k = w 239 k) ∧ ∀ j, j < n → pAg (pzS (w1 239) j) (pNq P j)
  | 0, i, fuel + 1, w, e, _, h2, H => by
    have e : i = n := by omega
    subst e
    refine ⟨w, ?_, fun _ _ => rfl, fun _ _ => rfl, fun j hj => ?_⟩
    · simp only [fX6_doQuiet_L4]
      rw [if_pos (by rw [h2]; exact pz_ge (Nat.le_refl i) (by omega))]
    · have := H j hj
      rw [if_pos hj] at this; exact this
  | d + 1, i, fuel + 1, w, e, hf, h2, H => by
    have hi : i < n := by omega
    have hA : pAg (pzS (w 239) i) (P i) := by have := H i hi; rw [if_neg (by omega)] at this; exact this
    obtain ⟨o0, o1, o2, o3, o4, o5, o6⟩ := pz_of_ (w := w) (i := i) (by omega)
    have q0 : w 239 (15 + 7 * i) = P i 0 := hA 0 (by decide)
    have q3 : w 239 (15 + 7 * i + 3) = P i 3 := hA 3 (by decide)
    have q4 : w 239 (15 + 7 * i + 4) = P i 4 := hA 4 (by decide)
    simp only [fX6_doQuiet_L4, o0, o4, o3, pz_b, pz_nm]
    rw [if_neg (by rw [h2]; exact nI_ge hi (by omega)), q0, q3, q4, nI_1]
    by_cases hz : P i 0 = 2 ∧ P i 4 = 0
    · have eN : pNq P i = upd (P i) 3 (P i 3 / 2) := by unfold pNq; rw [if_pos hz]
      have eD : pSum (pDq P) (i + 1) = pSum (pDq P) i + P i 3 / 2 := by simp only [pSum]; congr 1; unfold pDq; rw [if_pos hz]
      have hs : ∀ j, j ≠ i → pAg (pzS (quw w 239 (15 + 7 * i + 3) (P i 3 / 2) 239) j) (pzS (w 239) j) := fun j hj k hk => by
        unfold pzS; rw [pz_wk (by omega)]
      have hs2 : pAg (pzS (quw w 239 (15 + 7 * i + 3) (P i 3 / 2) 239) i) (pNq P i) := by
        rw [eN]
        intro k hk
        by_cases z : k = 3
        · subst z; unfold pzS; rw [pz_w, pz_u]
        · unfold pzS; rw [pz_wk (by omega), pz_un z]; exact hA k hk
      obtain ⟨w1, g1, g2, g2', g3⟩ := pr_qui hn hW d (i + 1) fuel (quw w 239 (15 + 7 * i + 3) (P i 3 / 2)) (by omega) (by omega) (by rw [pz_wk (by omega)]; exact h2) (pz_stepB H (fun j hj hk => hs j hk) hs2)
      refine ⟨w1, ?_, fun c hc => (g2 c hc).trans (pz_rn hc), fun k hk => (g2' k hk).trans (pz_wk (by omega)), g3⟩
      rw [if_pos hz.1, if_pos hz.2, (pz_set_ (by omega) _).2.2.2.1, pz_b, (pz_of_ (by omega)).2.2.2.1, pz_b, pz_w, ← eD]; exact g1
    · have eN : pNq P i = P i := by unfold pNq; rw [if_neg hz]
      have eD : pSum (pDq P) (i + 1) = pSum (pDq P) i := by
        simp only [pSum]
        have : pDq P i = 0 := by unfold pDq; rw [if_neg hz]
        rw [this, Int32.add_zero]
      obtain ⟨w1, g1, g2, g2', g3⟩ := pr_qui hn hW d (i + 1) fuel w (by omega) (by omega) h2 (pz_stepA H (fun _ _ _ => rfl) (by rw [eN]; exact hA))
      refine ⟨w1, ?_, g2, g2', g3⟩
      rw [eD] at g1
      by_cases k0 : P i 0 = 2
      · rw [if_pos k0, if_neg (fun z => hz ⟨k0, z⟩)]; exact g1
      · rw [if_neg k0]; exact g1
theorem po_quiet (T : Nat) (E : Int32 → Int32) (a b : Int32) : pDo T 10 a b fX6_doQuiet E := by
  intro S hW
  refine ⟨0, pSum (pDq (sP S)) (sN S), 0, 0, sQui S, (sQui_W hW).mo (by omega), Or.inl rfl, fun q => absurd rfl q, fun w H => ?_, fun w H => ?_⟩
  · obtain ⟨⟨H1, H2⟩, H3, H4, H5⟩ := H
    obtain ⟨w1, e1, k1, k2⟩ := pc_calm (h := 0) (by decide) hW.1 hW.2.1 (sN S) 0 100 w (by omega) (by have := hW.1; omega) H1 (fun j hj => by rw [if_neg (by omega)]; exact H2 j hj)
    refine ⟨quw w1 228 10 (pSum (pDq (sP S)) (sN S)), ?_, pOc.ok 0 0 (pH_28 _ (sQui_W hW) ?_) (fun c c1 c2 => ?_) ?_⟩
    · unfold fX5_tryOrder
      rw [if_neg (by decide), if_neg (by decide), if_neg (by decide), if_neg (by decide), if_neg (by decide), if_neg (by decide), if_neg (by decide), if_neg (by decide), if_neg (by decide), if_pos rfl]
      have e1' : fX0_calm w 0 = some (pSum (pDq (sP S)) (sN S), w1) := e1
      rw [e1', pz_b2, pc_ans, pz_b2]
    · exact ⟨⟨by rw [k1 _ (by omega)]; exact H1, fun i hi => k2 i hi⟩, by rw [k1 _ (by omega)]; exact H3, fun j hj => by rw [k1 _ (by omega)]; exact H4 j hj, fun k hk => by rw [k1 _ (by omega)]; exact H5 k hk⟩
    · rw [pz_wr, pz_rn c2]; exact k1 c (by omega)
    · rw [pz_wr, pz_r, k1 228 (by omega)]
  · obtain ⟨⟨H1, H2⟩, H3, H4, H5⟩ := H
    obtain ⟨w1, e1, k1, k2, k3⟩ := pr_qui hW.1 hW.2.1 (sN S) 0 100 w (by omega) (by have := hW.1; omega) H1 (fun j hj => by rw [if_neg (by omega)]; exact H2 j hj)
    have hq := hW.2.2.1
    refine ⟨_, w1, e1, pOr.ok _ 0 0 ⟨⟨by rw [k2 _ (by omega)]; exact H1, fun i hi => k3 i hi⟩, by rw [k2 _ (by omega)]; exact H3, fun j hj => ?_, fun k hk => by rw [k2 _ (by omega)]; exact H5 k hk⟩ (fun c c1 c2 => k1 c c2) (fun k _ => by rw [k1 238 (by decide)])⟩
    have hj' : j < sQ S := hj
    rw [k2 _ (by omega)]; exact H4 j hj
