-- an order with no, one, two numbers
theorem pc_ro2 {w w3 : qMem} {i j : Nat} (hi : i < 12) (hj : j = 0 ∨ j = 1 ∨ j = 2 ∨ j = 3 ∨ j = 4 ∨ j = 5 ∨ j = 7) (e : fX4_readWord w = some (nI (j + 1), w3)) : fX4_readOrder w (nI i) = fX4_readOrder_L93 (quw (quw (quw w3 233 i (nI (j + 1))) 234 i 0) 235 i 0) (nI i) (nI (j + 1)) (if decide (nI j = 3 ∨ nI j = 4) = true then 2 else 1) (nI i) := by
  rw [pc_rdo hi (by omega) e]
  rcases hj with h | h | h | h | h | h | h
  · subst h
    rw [show (if decide (nI 0 = 3 ∨ nI 0 = 4) = true then (2 : Int32) else 1) = 1 by decide]
    rw [if_neg (show ¬ nI (0 + 1) = (7 : Int32) by decide), if_neg (show ¬ nI (0 + 1) = (9 : Int32) by decide), if_neg (show ¬ nI (0 + 1) = (10 : Int32) by decide), if_neg (show ¬ nI (0 + 1) = (4 : Int32) by decide), if_neg (show ¬ nI (0 + 1) = (5 : Int32) by decide)]
  · subst h
    rw [show (if decide (nI 1 = 3 ∨ nI 1 = 4) = true then (2 : Int32) else 1) = 1 by decide]
    rw [if_neg (show ¬ nI (1 + 1) = (7 : Int32) by decide), if_neg (show ¬ nI (1 + 1) = (9 : Int32) by decide), if_neg (show ¬ nI (1 + 1) = (10 : Int32) by decide), if_neg (show ¬ nI (1 + 1) = (4 : Int32) by decide), if_neg (show ¬ nI (1 + 1) = (5 : Int32) by decide)]
  · subst h
    rw [show (if decide (nI 2 = 3 ∨ nI 2 = 4) = true then (2 : Int32) else 1) = 1 by decide]
    rw [if_neg (show ¬ nI (2 + 1) = (7 : Int32) by decide), if_neg (show ¬ nI (2 + 1) = (9 : Int32) by decide), if_neg (show ¬ nI (2 + 1) = (10 : Int32) by decide), if_neg (show ¬ nI (2 + 1) = (4 : Int32) by decide), if_neg (show ¬ nI (2 + 1) = (5 : Int32) by decide)]
  · subst h
    rw [show (if decide (nI 3 = 3 ∨ nI 3 = 4) = true then (2 : Int32) else 1) = 2 by decide]
    rw [if_neg (show ¬ nI (3 + 1) = (7 : Int32) by decide), if_neg (show ¬ nI (3 + 1) = (9 : Int32) by decide), if_neg (show ¬ nI (3 + 1) = (10 : Int32) by decide), if_pos (show nI (3 + 1) = (4 : Int32) from rfl)]
  · subst h
    rw [show (if decide (nI 4 = 3 ∨ nI 4 = 4) = true then (2 : Int32) else 1) = 2 by decide]
    rw [if_neg (show ¬ nI (4 + 1) = (7 : Int32) by decide), if_neg (show ¬ nI (4 + 1) = (9 : Int32) by decide), if_neg (show ¬ nI (4 + 1) = (10 : Int32) by decide), if_neg (show ¬ nI (4 + 1) = (4 : Int32) by decide), if_pos (show nI (4 + 1) = (5 : Int32) from rfl)]
  · subst h
    rw [show (if decide (nI 5 = 3 ∨ nI 5 = 4) = true then (2 : Int32) else 1) = 1 by decide]
    rw [if_neg (show ¬ nI (5 + 1) = (7 : Int32) by decide), if_neg (show ¬ nI (5 + 1) = (9 : Int32) by decide), if_neg (show ¬ nI (5 + 1) = (10 : Int32) by decide), if_neg (show ¬ nI (5 + 1) = (4 : Int32) by decide), if_neg (show ¬ nI (5 + 1) = (5 : Int32) by decide)]
  · subst h
    rw [show (if decide (nI 7 = 3 ∨ nI 7 = 4) = true then (2 : Int32) else 1) = 1 by decide]
    rw [if_neg (show ¬ nI (7 + 1) = (7 : Int32) by decide), if_neg (show ¬ nI (7 + 1) = (9 : Int32) by decide), if_neg (show ¬ nI (7 + 1) = (10 : Int32) by decide), if_neg (show ¬ nI (7 + 1) = (4 : Int32) by decide), if_neg (show ¬ nI (7 + 1) = (5 : Int32) by decide)]
theorem pr_ro2 {w w6 : qMem} {i j : Nat} (hi : i < 12) (hj : j = 0 ∨ j = 1 ∨ j = 2 ∨ j = 3 ∨ j = 4 ∨ j = 5 ∨ j = 7) (h17 : w 238 17 = 0) (h20 : w 238 20 = nI i) (e : fX6_word (quw w 238 20 (nI (i + 1))) = some (nI j, w6)) : fX6_readOrder w = fX6_readOrder_L49 (quw w6 246 (3 * i) (nI j)) (nI (3 * i)) (nI j) := by
  rw [pr_rdo hi h17 h20 e]
  by_cases z : j < 6
  · rw [if_pos (show nI j < 6 from nI_lt (b := 6) z (by decide))]
  · have e7 : j = 7 := by omega
    subst e7
    rw [if_neg (by decide), if_pos (show nI 7 = (7 : Int32) from rfl)]
/-- no number -/
theorem pb_g1 {t : Nat → Int32} {L o o1 j : Nat} (hj : j = 6 ∨ j = 8 ∨ j = 9) (h1 : o + 5 ≤ o1) (h2 : o1 ≤ L) (hc : ∀ w : qMem, pCs w t L o → ∃ w1 : qMem, fX4_readWord w = some (nI (j + 1), w1) ∧ pCf w w1 o1) (hr : ∀ w : qMem, pRs w t L o 0 → ∃ w1 : qMem, fX6_word w = some (nI j, w1) ∧ pRf w w1 o1 0) {D : qMem → Option (Int32 × qMem)} {E : Int32 → Int32} (hD : ∀ T, pDo T (nI (j + 1)) 0 0 D E) (hd : ∀ (w : qMem) (i : Nat), i < 12 → w 246 (3 * i) = nI j → fX6_does w (nI i) = qbd2 (D w) fun (_ : Int32) (w1 : qMem) => some w1) : pOrd t L o := by
  refine ⟨o1, true, nI (j + 1), 0, 0, D, E, by omega, h2, fun _ => ⟨h1, hD⟩, fun w i hi H => ?_, fun w i hi H h20 => ?_⟩
  · obtain ⟨w3, e1, f1⟩ := hc w H
    refine ⟨quw (quw (quw w3 233 i (nI (j + 1))) 234 i 0) 235 i 0, ?_, (((pKf.mk f1).u (Or.inl rfl)).u (Or.inr (Or.inl rfl))).u (Or.inr (Or.inr rfl)), fun _ => ⟨by rw [pz_wn (by decide), pz_wn (by decide), pz_w], by rw [pz_wn (by decide), pz_w], pz_w⟩⟩
    rw [pc_rdo hi (by omega) e1, if_pos (show true = true from rfl)]
    rcases hj with h | h | h
    · subst h; rw [if_pos (show nI (6 + 1) = (7 : Int32) from rfl)]
    · subst h; rw [if_neg (show ¬ nI (8 + 1) = (7 : Int32) by decide), if_pos (show nI (8 + 1) = (9 : Int32) from rfl)]
    · subst h; rw [if_neg (show ¬ nI (9 + 1) = (7 : Int32) by decide), if_neg (show ¬ nI (9 + 1) = (9 : Int32) by decide), if_pos (show nI (9 + 1) = (10 : Int32) from rfl)]
  · obtain ⟨w6, e1, f1⟩ := hr _ (H.w20 (v := nI (i + 1)))
    have H6 := ((H.w20 (v := nI (i + 1))).f f1).w246 (k := 3 * i) (v := nI j)
    obtain ⟨g1, g2⟩ := pQf.mk f1 (pQh.mk (i := i) (pRf.rf H6))
    refine ⟨quw w6 246 (3 * i) (nI j), ?_, g1, fun _ w' y0 _ _ => hd w' i hi (y0.trans g2)⟩
    have n3 : ¬ nI j < 3 := nI_nlt (a := j) (b := 3) (by omega) (by omega)
    have n4 : ¬ nI j = 4 := fun q => absurd ((nI_eq (b := 4) (by omega) (by decide)).mp q) (by omega)
    have n6 : ¬ nI j < 6 := nI_nlt (a := j) (b := 6) (by omega) (by omega)
    have n7 : ¬ nI j = 7 := fun q => absurd ((nI_eq (b := 7) (by omega) (by decide)).mp q) (by omega)
    rw [pr_rdo hi H.2.2.1 h20 e1, if_neg n6, if_neg n7, pr_84n n3 n4]
/-- one number -/
theorem pb_g2 {t : Nat → Int32} {L o o1 j : Nat} (hL : L ≤ 60) (hj : j = 3 ∨ j = 5 ∨ j = 7) (h1 : o + 3 ≤ o1) (h2 : o1 ≤ L) (hc : ∀ w : qMem, pCs w t L o → ∃ w1 : qMem, fX4_readWord w = some (nI (j + 1), w1) ∧ pCf w w1 o1) (hr : ∀ w : qMem, pRs w t L o 0 → ∃ w1 : qMem, fX6_word w = some (nI j, w1) ∧ pRf w w1 o1 0) {D : Int32 → qMem → Option (Int32 × qMem)} {E : Int32 → Int32} (hD : ∀ (T : Nat) (a : Int32), pDo T (nI (j + 1)) a 0 (D a) E) (hd : ∀ (w : qMem) (i : Nat), i < 12 → w 246 (3 * i) = nI j → fX6_does w (nI i) = qbd2 (D (w 246 (3 * i + 1)) w) fun (_ : Int32) (w1 : qMem) => some w1) : pOrd t L o := by
  obtain ⟨o2, n, b1, b2, b3, b4, bc, br⟩ := pb_num (decide (nI j = 3 ∨ nI j = 4)) (t := t) hL h2
  have hx : nI (j + 1) = 4 ∨ nI (j + 1) = 6 ∨ nI (j + 1) = 8 := by
    rcases hj with h | h | h
    · exact Or.inl (by rw [h]; rfl)
    · exact Or.inr (Or.inl (by rw [h]; rfl))
    · exact Or.inr (Or.inr (by rw [h]; rfl))
  have hj' : j = 0 ∨ j = 1 ∨ j = 2 ∨ j = 3 ∨ j = 4 ∨ j = 5 ∨ j = 7 := by omega
  have cl : ∀ (w : qMem) (i : Nat), i < 12 → pCs w t L o → ∃ w1 : qMem, fX4_readOrder w (nI i) = some (if n = 100 then 0 else 1, w1) ∧ pKf w w1 i o2 ∧ w1 233 i = nI (j + 1) ∧ w1 234 i = pEn n ∧ w1 235 i = 0 := fun w i hi H => by
    obtain ⟨w3, e1, f1⟩ := hc w H
    have H12 := (((H.f f1).w3 (i := i) (v := nI (j + 1)) (Or.inl rfl)).w3 (i := i) (v := 0) (Or.inr (Or.inl rfl))).w3 (i := i) (v := 0) (Or.inr (Or.inr rfl))
    obtain ⟨w4, e4, f4⟩ := bc _ H12
    refine ⟨quw w4 234 i (pEn n), ?_, (((((pKf.mk f1).u (Or.inl rfl)).u (Or.inr (Or.inl rfl))).u (Or.inr (Or.inr rfl))).c f4).u (Or.inr (Or.inl rfl)), ?_, pz_w, ?_⟩
    · rw [pc_ro2 hi hj' e1]; exact pc_93a hi b3 e4 hx
    · rw [pz_wn (by decide), f4.1 233 (by decide), pz_wn (by decide), pz_wn (by decide), pz_w]
    · rw [pz_wn (by decide), f4.1 235 (by decide), pz_w]
  have rl : ∀ (w : qMem) (i : Nat), i < 12 → pRs w t L o 0 → w 238 20 = nI i → ∃ w1 : qMem, fX6_readOrder w = some w1 ∧ pQf w w1 i o2 (pEe n) ∧ w1 246 (3 * i) = nI j ∧ (n ≠ 100 → w1 246 (3 * i + 1) = nI n) := fun w i hi H h20 => by
    obtain ⟨w6, e1, f1⟩ := hr _ (H.w20 (v := nI (i + 1)))
    have H6 := ((H.w20 (v := nI (i + 1))).f f1).w246 (k := 3 * i) (v := nI j)
    obtain ⟨wa, wb, r, ea, eb, fb, fr⟩ := br _ H6
    have g := (pQh.mk (i := i) fb).u (k0 := 3 * i + 1) (v := r) (by omega)
    rw [pr_ro2 hi hj' H.2.2.1 h20 e1, pr_49 hi ea eb]
    by_cases z : n = 100
    · have g' : pQh (quw w6 246 (3 * i) (nI j)) (quw wb 246 (3 * i + 1) r) i o2 1 := by rw [z] at g; exact g
      obtain ⟨w2, e2, f2⟩ := pr_84e hi (H6.q g') (nI j)
      have g2 := g'.tr f2
      obtain ⟨k1, k2⟩ := pQf.mk f1 g2
      exact ⟨w2, e2, by rw [z]; exact k1, k2, fun q => absurd z q⟩
    · obtain ⟨k1, k2⟩ := pQf.mk f1 g
      have n3 : ¬ nI j < 3 := nI_nlt (a := j) (b := 3) (by omega) (by omega)
      have n4 : ¬ nI j = 4 := fun q => absurd ((nI_eq (b := 4) (by omega) (by decide)).mp q) (by omega)
      exact ⟨_, pr_84n n3 n4, k1, k2, fun q => by rw [pz_w]; exact fr q⟩
  by_cases z : n = 100
  · refine ⟨o2, false, 0, 0, 0, fun _ => none, fun _ => 0, by omega, b2, fun q => absurd q (by decide), fun w i hi H => ?_, fun w i hi H h20 => ?_⟩
    · obtain ⟨w1, e1, f1, _⟩ := cl w i hi H
      rw [if_pos z] at e1
      exact ⟨w1, e1, f1, fun q => absurd q (by decide)⟩
    · obtain ⟨w1, e1, f1, _⟩ := rl w i hi H h20
      rw [z] at f1
      exact ⟨w1, e1, f1, fun q => absurd q (by decide)⟩
  · refine ⟨o2, true, nI (j + 1), nI n, 0, D (nI n), E, by omega, b2, fun _ => ⟨by have := b4 z; omega, fun T => hD T (nI n)⟩, fun w i hi H => ?_, fun w i hi H h20 => ?_⟩
    · obtain ⟨w1, e1, f1, g1, g2, g3⟩ := cl w i hi H
      rw [if_neg z] at e1
      exact ⟨w1, e1, f1, fun _ => ⟨g1, g2.trans (pEn_ok b3 z).2.2, g3⟩⟩
    · obtain ⟨w1, e1, f1, g1, g2⟩ := rl w i hi H h20
      rw [pEe, if_neg z] at f1
      refine ⟨w1, e1, f1, fun _ w' y0 y1 _ => ?_⟩
      rw [hd w' i hi (y0.trans g1), y1, g2 z]
/-- two numbers -/
theorem pb_g3 {t : Nat → Int32} {L o o1 j : Nat} (hL : L ≤ 60) (hj : j = 0 ∨ j = 1 ∨ j = 2 ∨ j = 4) (h1 : o + 3 ≤ o1) (h2 : o1 ≤ L) (hc : ∀ w : qMem, pCs w t L o → ∃ w1 : qMem, fX4_readWord w = some (nI (j + 1), w1) ∧ pCf w w1 o1) (hr : ∀ w : qMem, pRs w t L o 0 → ∃ w1 : qMem, fX6_word w = some (nI j, w1) ∧ pRf w w1 o1 0) {D : Int32 → Int32 → qMem → Option (Int32 × qMem)} {E : Int32 → Int32} (hD : ∀ (T : Nat) (a b : Int32), pDo T (nI (j + 1)) a b (D a b) E) (hd : ∀ (w : qMem) (i : Nat), i < 12 → w 246 (3 * i) = nI j → fX6_does w (nI i) = qbd2 (D (w 246 (3 * i + 1)) (w 246 (3 * i + 2)) w) fun (_ : Int32) (w1 : qMem) => some w1) : pOrd t L o := by
  obtain ⟨o2, n, b1, b2, b3, b4, bc, br⟩ := pb_num (decide (nI j = 3 ∨ nI j = 4)) (t := t) hL h2
  obtain ⟨o3, m, d1, d2, d3, d4, dc, dr⟩ := pb_num false (t := t) hL b2
  have hx : ¬ nI (j + 1) = 4 ∧ ¬ nI (j + 1) = 6 ∧ ¬ nI (j + 1) = 8 := by
    rcases hj with h | h | h | h
    · rw [h]; exact ⟨by decide, by decide, by decide⟩
    · rw [h]; exact ⟨by decide, by decide, by decide⟩
    · rw [h]; exact ⟨by decide, by decide, by decide⟩
    · rw [h]; exact ⟨by decide, by decide, by decide⟩
  have hj' : j = 0 ∨ j = 1 ∨ j = 2 ∨ j = 3 ∨ j = 4 ∨ j = 5 ∨ j = 7 := by omega
  have hj4 : nI j < 3 ∨ nI j = 4 := by
    rcases hj with h | h | h | h
    · exact Or.inl (by rw [h]; decide)
    · exact Or.inl (by rw [h]; decide)
    · exact Or.inl (by rw [h]; decide)
    · exact Or.inr (by rw [h]; rfl)
  have cl : ∀ (w : qMem) (i : Nat), i < 12 → pCs w t L o → ∃ w1 : qMem, fX4_readOrder w (nI i) = some (if n = 100 then 0 else if m = 100 then 0 else 1, w1) ∧ pKf w w1 i (if n = 100 then o2 else o3) ∧ w1 233 i = nI (j + 1) ∧ w1 234 i = pEn n ∧ (n ≠ 100 → w1 235 i = pEn m) := fun w i hi H => by
    obtain ⟨w3, e1, f1⟩ := hc w H
    have H12 := (((H.f f1).w3 (i := i) (v := nI (j + 1)) (Or.inl rfl)).w3 (i := i) (v := 0) (Or.inr (Or.inl rfl))).w3 (i := i) (v := 0) (Or.inr (Or.inr rfl))
    obtain ⟨w4, e4, f4⟩ := bc _ H12
    have H4 := (H12.f f4).w3 (i := i) (v := pEn n) (Or.inr (Or.inl rfl))
    obtain ⟨w5, e5, f5⟩ := dc _ H4
    have e5 : fX4_readNumber (quw w4 234 i (pEn n)) 1 = some (pEn m, w5) := e5
    have k4 := (((((pKf.mk (i := i) f1).u (v := nI (j + 1)) (Or.inl rfl)).u (v := 0) (Or.inr (Or.inl rfl))).u (v := 0) (Or.inr (Or.inr rfl))).c f4).u (v := pEn n) (Or.inr (Or.inl rfl))
    have key := pc_93b (x2 := nI (j + 1)) hi b3 d3 e4 hx (fun _ => e5)
    rw [pc_ro2 hi hj' e1, key]
    by_cases z : n = 100
    · rw [if_pos z, if_pos z, if_pos z]
      refine ⟨_, rfl, k4, ?_, pz_w, fun q => absurd z q⟩
      rw [pz_wn (by decide), f4.1 233 (by decide), pz_wn (by decide), pz_wn (by decide), pz_w]
    · rw [if_neg z, if_neg z, if_neg z]
      refine ⟨_, rfl, (k4.c f5).u (Or.inr (Or.inr rfl)), ?_, ?_, fun _ => pz_w⟩
      · rw [pz_wn (by decide), f5.1 233 (by decide), pz_wn (by decide), f4.1 233 (by decide), pz_wn (by decide), pz_wn (by decide), pz_w]
      · rw [pz_wn (by decide), f5.1 234 (by decide), pz_w]
  have rl : ∀ (w : qMem) (i : Nat), i < 12 → pRs w t L o 0 → w 238 20 = nI i → ∃ w1 : qMem, fX6_readOrder w = some w1 ∧ pQf w w1 i (if n = 100 then o2 else o3) (if n = 100 then 1 else pEe m) ∧ w1 246 (3 * i) = nI j ∧ (n ≠ 100 → m ≠ 100 → w1 246 (3 * i + 1) = nI n ∧ w1 246 (3 * i + 2) = nI m) := fun w i hi H h20 => by
    obtain ⟨w6, e1, f1⟩ := hr _ (H.w20 (v := nI (i + 1)))
    have H6 := ((H.w20 (v := nI (i + 1))).f f1).w246 (k := 3 * i) (v := nI j)
    obtain ⟨wa, wb, r, ea, eb, fb, fr⟩ := br _ H6
    have g := (pQh.mk (i := i) fb).u (k0 := 3 * i + 1) (v := r) (by omega)
    rw [pr_ro2 hi hj' H.2.2.1 h20 e1, pr_49 hi ea eb]
    by_cases z : n = 100
    · have g' : pQh (quw w6 246 (3 * i) (nI j)) (quw wb 246 (3 * i + 1) r) i o2 1 := by rw [z] at g; exact g
      obtain ⟨w2, e2, f2⟩ := pr_84e hi (H6.q g') (nI j)
      obtain ⟨k1, k2⟩ := pQf.mk f1 (g'.tr f2)
      exact ⟨w2, e2, by rw [if_pos z, if_pos z]; exact k1, k2, fun q => absurd z q⟩
    · have g0 : pQh (quw w6 246 (3 * i) (nI j)) (quw wb 246 (3 * i + 1) r) i o2 0 := by rw [pEe, if_neg z] at g; exact g
      obtain ⟨wc, wd, r2, ec, ed, fd, fr2⟩ := dr _ (H6.q g0)
      have g2 := (pQh.mk (i := i) fd).u (k0 := 3 * i + 2) (v := r2) (by omega)
      obtain ⟨k1, k2⟩ := pQf.mk f1 (g0.tr g2)
      refine ⟨_, pr_84y hi hj4 ec ed, by rw [if_neg z, if_neg z]; exact k1, k2, fun _ q => ⟨?_, ?_⟩⟩
      · rw [pz_wk (by omega), fd.1 246 (by decide), pz_w]; exact fr z
      · rw [pz_w]; exact fr2 q
  by_cases z : n = 100
  · refine ⟨o2, false, 0, 0, 0, fun _ => none, fun _ => 0, by omega, b2, fun q => absurd q (by decide), fun w i hi H => ?_, fun w i hi H h20 => ?_⟩
    · obtain ⟨w1, e1, f1, _⟩ := cl w i hi H
      rw [if_pos z] at e1 f1
      exact ⟨w1, e1, f1, fun q => absurd q (by decide)⟩
    · obtain ⟨w1, e1, f1, _⟩ := rl w i hi H h20
      rw [if_pos z, if_pos z] at f1
      exact ⟨w1, e1, f1, fun q => absurd q (by decide)⟩
  · by_cases y : m = 100
    · refine ⟨o3, false, 0, 0, 0, fun _ => none, fun _ => 0, by omega, d2, fun q => absurd q (by decide), fun w i hi H => ?_, fun w i hi H h20 => ?_⟩
      · obtain ⟨w1, e1, f1, _⟩ := cl w i hi H
        rw [if_neg z] at e1 f1
        rw [if_pos y] at e1
        exact ⟨w1, e1, f1, fun q => absurd q (by decide)⟩
      · obtain ⟨w1, e1, f1, _⟩ := rl w i hi H h20
        rw [if_neg z, if_neg z, pEe, if_pos y] at f1
        exact ⟨w1, e1, f1, fun q => absurd q (by decide)⟩
    · refine ⟨o3, true, nI (j + 1), nI n, nI m, D (nI n) (nI m), E, by omega, d2, fun _ => ⟨by have := b4 z; omega, fun T => hD T (nI n) (nI m)⟩, fun w i hi H => ?_, fun w i hi H h20 => ?_⟩
      · obtain ⟨w1, e1, f1, g1, g2, g3⟩ := cl w i hi H
        rw [if_neg z] at e1 f1
        rw [if_neg y] at e1
        exact ⟨w1, e1, f1, fun _ => ⟨g1, g2.trans (pEn_ok b3 z).2.2, (g3 z).trans (pEn_ok d3 y).2.2⟩⟩
      · obtain ⟨w1, e1, f1, g1, g2⟩ := rl w i hi H h20
        rw [if_neg z, if_neg z, pEe, if_neg y] at f1
        refine ⟨w1, e1, f1, fun _ w' y0 y1 y2 => ?_⟩
        rw [hd w' i hi (y0.trans g1), y1, y2, (g2 z y).1, (g2 z y).2]
-- what the reference does for each word
theorem pr_do0 (w : qMem) (i : Nat) (hi : i < 12) (h0 : w 246 (3 * i) = nI 0) : fX6_does w (nI i) = qbd2 (fX6_comes w 1 (w 246 (3 * i + 1)) (w 246 (3 * i + 2))) fun (_ : Int32) (w1 : qMem) => some w1 := by
  have e3 : (3 : Int32) * nI i = nI (3 * i) := pk_mul 3 i
  have q0 := pz_qin (i := 3 * i) (n := 180) (by omega) (by decide)
  unfold fX6_does
  rw [e3, (pk_31 i).1, (pk_31 i).2, if_pos (pz_qin (i := 3 * i + 1) (by omega) (by decide)), pz_nI (n := 3 * i + 1) (by omega), pz_nm, if_pos (pz_qin (i := 3 * i + 2) (by omega) (by decide)), pz_nI (n := 3 * i + 2) (by omega), pz_nm, if_pos q0, pz_nI (n := 3 * i) (by omega), h0, if_neg (show ¬ nI 0 = (3 : Int32) by decide), if_neg (show ¬ nI 0 = (4 : Int32) by decide), if_neg (show ¬ nI 0 = (5 : Int32) by decide), if_neg (show ¬ nI 0 = (6 : Int32) by decide), if_neg (show ¬ nI 0 = (7 : Int32) by decide), if_neg (show ¬ nI 0 = (8 : Int32) by decide), if_neg (show ¬ nI 0 = (9 : Int32) by decide), if_pos q0, if_pos (show nI 0 = (0 : Int32) from rfl)]
theorem pr_do1 (w : qMem) (i : Nat) (hi : i < 12) (h0 : w 246 (3 * i) = nI 1) : fX6_does w (nI i) = qbd2 (fX6_comes w 2 (w 246 (3 * i + 1)) (w 246 (3 * i + 2))) fun (_ : Int32) (w1 : qMem) => some w1 := by
  have e3 : (3 : Int32) * nI i = nI (3 * i) := pk_mul 3 i
  have q0 := pz_qin (i := 3 * i) (n := 180) (by omega) (by decide)
  unfold fX6_does
  rw [e3, (pk_31 i).1, (pk_31 i).2, if_pos (pz_qin (i := 3 * i + 1) (by omega) (by decide)), pz_nI (n := 3 * i + 1) (by omega), pz_nm, if_pos (pz_qin (i := 3 * i + 2) (by omega) (by decide)), pz_nI (n := 3 * i + 2) (by omega), pz_nm, if_pos q0, pz_nI (n := 3 * i) (by omega), h0, if_neg (show ¬ nI 1 = (3 : Int32) by decide), if_neg (show ¬ nI 1 = (4 : Int32) by decide), if_neg (show ¬ nI 1 = (5 : Int32) by decide), if_neg (show ¬ nI 1 = (6 : Int32) by decide), if_neg (show ¬ nI 1 = (7 : Int32) by decide), if_neg (show ¬ nI 1 = (8 : Int32) by decide), if_neg (show ¬ nI 1 = (9 : Int32) by decide), if_pos q0, if_neg (show ¬ nI 1 = (0 : Int32) by decide), if_pos q0, if_pos (show nI 1 = (1 : Int32) from rfl)]
theorem pr_do2 (w : qMem) (i : Nat) (hi : i < 12) (h0 : w 246 (3 * i) = nI 2) : fX6_does w (nI i) = qbd2 (fX6_comes w 3 (w 246 (3 * i + 1)) (w 246 (3 * i + 2))) fun (_ : Int32) (w1 : qMem) => some w1 := by
  have e3 : (3 : Int32) * nI i = nI (3 * i) := pk_mul 3 i
  have q0 := pz_qin (i := 3 * i) (n := 180) (by omega) (by decide)
  unfold fX6_does
  rw [e3, (pk_31 i).1, (pk_31 i).2, if_pos (pz_qin (i := 3 * i + 1) (by omega) (by decide)), pz_nI (n := 3 * i + 1) (by omega), pz_nm, if_pos (pz_qin (i := 3 * i + 2) (by omega) (by decide)), pz_nI (n := 3 * i + 2) (by omega), pz_nm, if_pos q0, pz_nI (n := 3 * i) (by omega), h0, if_neg (show ¬ nI 2 = (3 : Int32) by decide), if_neg (show ¬ nI 2 = (4 : Int32) by decide), if_neg (show ¬ nI 2 = (5 : Int32) by decide), if_neg (show ¬ nI 2 = (6 : Int32) by decide), if_neg (show ¬ nI 2 = (7 : Int32) by decide), if_neg (show ¬ nI 2 = (8 : Int32) by decide), if_neg (show ¬ nI 2 = (9 : Int32) by decide), if_pos q0, if_neg (show ¬ nI 2 = (0 : Int32) by decide), if_pos q0, if_neg (show ¬ nI 2 = (1 : Int32) by decide)]
theorem pr_do3 (w : qMem) (i : Nat) (hi : i < 12) (h0 : w 246 (3 * i) = nI 3) : fX6_does w (nI i) = qbd2 (fX6_doTake w (w 246 (3 * i + 1))) fun (_ : Int32) (w1 : qMem) => some w1 := by
  have e3 : (3 : Int32) * nI i = nI (3 * i) := pk_mul 3 i
  have q0 := pz_qin (i := 3 * i) (n := 180) (by omega) (by decide)
  unfold fX6_does
  rw [e3, (pk_31 i).1, (pk_31 i).2, if_pos (pz_qin (i := 3 * i + 1) (by omega) (by decide)), pz_nI (n := 3 * i + 1) (by omega), pz_nm, if_pos (pz_qin (i := 3 * i + 2) (by omega) (by decide)), pz_nI (n := 3 * i + 2) (by omega), pz_nm, if_pos q0, pz_nI (n := 3 * i) (by omega), h0, if_pos (show nI 3 = (3 : Int32) from rfl)]
theorem pr_do4 (w : qMem) (i : Nat) (hi : i < 12) (h0 : w 246 (3 * i) = nI 4) : fX6_does w (nI i) = qbd2 (fX6_doCue w (w 246 (3 * i + 1)) (w 246 (3 * i + 2))) fun (_ : Int32) (w1 : qMem) => some w1 := by
  have e3 : (3 : Int32) * nI i = nI (3 * i) := pk_mul 3 i
  have q0 := pz_qin (i := 3 * i) (n := 180) (by omega) (by decide)
  unfold fX6_does
  rw [e3, (pk_31 i).1, (pk_31 i).2, if_pos (pz_qin (i := 3 * i + 1) (by omega) (by decide)), pz_nI (n := 3 * i + 1) (by omega), pz_nm, if_pos (pz_qin (i := 3 * i + 2) (by omega) (by decide)), pz_nI (n := 3 * i + 2) (by omega), pz_nm, if_pos q0, pz_nI (n := 3 * i) (by omega), h0, if_neg (show ¬ nI 4 = (3 : Int32) by decide), if_pos (show nI 4 = (4 : Int32) from rfl)]
theorem pr_do5 (w : qMem) (i : Nat) (hi : i < 12) (h0 : w 246 (3 * i) = nI 5) : fX6_does w (nI i) = qbd2 (fX6_doSet w (w 246 (3 * i + 1))) fun (_ : Int32) (w1 : qMem) => some w1 := by
  have e3 : (3 : Int32) * nI i = nI (3 * i) := pk_mul 3 i
  have q0 := pz_qin (i := 3 * i) (n := 180) (by omega) (by decide)
  unfold fX6_does
  rw [e3, (pk_31 i).1, (pk_31 i).2, if_pos (pz_qin (i := 3 * i + 1) (by omega) (by decide)), pz_nI (n := 3 * i + 1) (by omega), pz_nm, if_pos (pz_qin (i := 3 * i + 2) (by omega) (by decide)), pz_nI (n := 3 * i + 2) (by omega), pz_nm, if_pos q0, pz_nI (n := 3 * i) (by omega), h0, if_neg (show ¬ nI 5 = (3 : Int32) by decide), if_neg (show ¬ nI 5 = (4 : Int32) by decide), if_pos (show nI 5 = (5 : Int32) from rfl)]
theorem pr_do6 (w : qMem) (i : Nat) (hi : i < 12) (h0 : w 246 (3 * i) = nI 6) : fX6_does w (nI i) = qbd2 (fX6_shocks w (w 239 1)) fun (_ : Int32) (w1 : qMem) => some w1 := by
  have e3 : (3 : Int32) * nI i = nI (3 * i) := pk_mul 3 i
  have q0 := pz_qin (i := 3 * i) (n := 180) (by omega) (by decide)
  unfold fX6_does
  rw [e3, (pk_31 i).1, (pk_31 i).2, if_pos (pz_qin (i := 3 * i + 1) (by omega) (by decide)), pz_nI (n := 3 * i + 1) (by omega), pz_nm, if_pos (pz_qin (i := 3 * i + 2) (by omega) (by decide)), pz_nI (n := 3 * i + 2) (by omega), pz_nm, if_pos q0, pz_nI (n := 3 * i) (by omega), h0, if_neg (show ¬ nI 6 = (3 : Int32) by decide), if_neg (show ¬ nI 6 = (4 : Int32) by decide), if_neg (show ¬ nI 6 = (5 : Int32) by decide), if_pos (show nI 6 = (6 : Int32) from rfl)]
theorem pr_do7 (w : qMem) (i : Nat) (hi : i < 12) (h0 : w 246 (3 * i) = nI 7) : fX6_does w (nI i) = qbd2 (fX6_doAdd w (w 246 (3 * i + 1))) fun (_ : Int32) (w1 : qMem) => some w1 := by
  have e3 : (3 : Int32) * nI i = nI (3 * i) := pk_mul 3 i
  have q0 := pz_qin (i := 3 * i) (n := 180) (by omega) (by decide)
  unfold fX6_does
  rw [e3, (pk_31 i).1, (pk_31 i).2, if_pos (pz_qin (i := 3 * i + 1) (by omega) (by decide)), pz_nI (n := 3 * i + 1) (by omega), pz_nm, if_pos (pz_qin (i := 3 * i + 2) (by omega) (by decide)), pz_nI (n := 3 * i + 2) (by omega), pz_nm, if_pos q0, pz_nI (n := 3 * i) (by omega), h0, if_neg (show ¬ nI 7 = (3 : Int32) by decide), if_neg (show ¬ nI 7 = (4 : Int32) by decide), if_neg (show ¬ nI 7 = (5 : Int32) by decide), if_neg (show ¬ nI 7 = (6 : Int32) by decide), if_pos (show nI 7 = (7 : Int32) from rfl)]
theorem pr_do8 (w : qMem) (i : Nat) (hi : i < 12) (h0 : w 246 (3 * i) = nI 8) : fX6_does w (nI i) = qbd2 (fX6_doPerform w) fun (_ : Int32) (w1 : qMem) => some w1 := by
  have e3 : (3 : Int32) * nI i = nI (3 * i) := pk_mul 3 i
  have q0 := pz_qin (i := 3 * i) (n := 180) (by omega) (by decide)
  unfold fX6_does
  rw [e3, (pk_31 i).1, (pk_31 i).2, if_pos (pz_qin (i := 3 * i + 1) (by omega) (by decide)), pz_nI (n := 3 * i + 1) (by omega), pz_nm, if_pos (pz_qin (i := 3 * i + 2) (by omega) (by decide)), pz_nI (n := 3 * i + 2) (by omega), pz_nm, if_pos q0, pz_nI (n := 3 * i) (by omega), h0, if_neg (show ¬ nI 8 = (3 : Int32) by decide), if_neg (show ¬ nI 8 = (4 : Int32) by decide), if_neg (show ¬ nI 8 = (5 : Int32) by decide), if_neg (show ¬ nI 8 = (6 : Int32) by decide), if_neg (show ¬ nI 8 = (7 : Int32) by decide), if_pos (show nI 8 = (8 : Int32) from rfl)]
theorem pr_do9 (w : qMem) (i : Nat) (hi : i < 12) (h0 : w 246 (3 * i) = nI 9) : fX6_does w (nI i) = qbd2 (fX6_doQuiet w) fun (_ : Int32) (w1 : qMem) => some w1 := by
  have e3 : (3 : Int32) * nI i = nI (3 * i) := pk_mul 3 i
  have q0 := pz_qin (i := 3 * i) (n := 180) (by omega) (by decide)
  unfold fX6_does
  rw [e3, (pk_31 i).1, (pk_31 i).2, if_pos (pz_qin (i := 3 * i + 1) (by omega) (by decide)), pz_nI (n := 3 * i + 1) (by omega), pz_nm, if_pos (pz_qin (i := 3 * i + 2) (by omega) (by decide)), pz_nI (n := 3 * i + 2) (by omega), pz_nm, if_pos q0, pz_nI (n := 3 * i) (by omega), h0, if_neg (show ¬ nI 9 = (3 : Int32) by decide), if_neg (show ¬ nI 9 = (4 : Int32) by decide), if_neg (show ¬ nI 9 = (5 : Int32) by decide), if_neg (show ¬ nI 9 = (6 : Int32) by decide), if_neg (show ¬ nI 9 = (7 : Int32) by decide), if_neg (show ¬ nI 9 = (8 : Int32) by decide), if_pos (show nI 9 = (9 : Int32) from rfl)]
theorem pb_ord {t : Nat → Int32} {L o : Nat} (hL : L ≤ 60) (ho : o ≤ L) : pOrd t L o := by
  rcases pb_word (t := t) hL ho with ⟨j, hj, h2, hc, hr⟩ | ⟨o1, h1, h2, hc, hr⟩
  · have hl := pt_80 j hj
    rcases j with _ | _ | _ | _ | _ | _ | _ | _ | _ | _ | j
    · exact pb_g3 (D := fun a b w => fX6_comes w 1 a b) hL (Or.inl rfl) (by omega) h2 hc hr (fun T a b => po_put T (Or.inl rfl) a b) pr_do0
    · exact pb_g3 (D := fun a b w => fX6_comes w 2 a b) hL (Or.inr (Or.inl rfl)) (by omega) h2 hc hr (fun T a b => po_put T (Or.inr (Or.inl rfl)) a b) pr_do1
    · exact pb_g3 (D := fun a b w => fX6_comes w 3 a b) hL (Or.inr (Or.inr (Or.inl rfl))) (by omega) h2 hc hr (fun T a b => po_put T (Or.inr (Or.inr rfl)) a b) pr_do2
    · exact pb_g2 (D := fun a w => fX6_doTake w a) hL (Or.inl rfl) (by omega) h2 hc hr (fun T a => po_take T a 0) pr_do3
    · exact pb_g3 (D := fun a b w => fX6_doCue w a b) hL (Or.inr (Or.inr (Or.inr rfl))) (by omega) h2 hc hr (fun T a b => po_cue T a b) pr_do4
    · exact pb_g2 (D := fun a w => fX6_doSet w a) hL (Or.inr (Or.inl rfl)) (by omega) h2 hc hr (fun T a => po_set T a 0) pr_do5
    · exact pb_g1 (D := fun w => fX6_shocks w (w 239 1)) (E := fun _ => 0) (Or.inl rfl) (show o + 5 ≤ o + (pWd 6).length by have : (pWd 6).length = 5 := rfl; omega) h2 hc hr (fun T => po_shock T (fun _ => 0) 0 0) pr_do6
    · exact pb_g2 (D := fun a w => fX6_doAdd w a) hL (Or.inr (Or.inr rfl)) (by omega) h2 hc hr (fun T a => po_add T a 0) pr_do7
    · exact pb_g1 (D := fX6_doPerform) (Or.inr (Or.inl rfl)) (show o + 5 ≤ o + (pWd 8).length by have : (pWd 8).length = 7 := rfl; omega) h2 hc hr (fun T => po_perform T 0 0) pr_do8
    · exact pb_g1 (D := fX6_doQuiet) (E := fun _ => 0) (Or.inr (Or.inr rfl)) (show o + 5 ≤ o + (pWd 9).length by have : (pWd 9).length = 5 := rfl; omega) h2 hc hr (fun T => po_quiet T (fun _ => 0) 0 0) pr_do9
    · omega
  · exact pb_g0 h1 h2 hc hr
