-- cup, lamp, cat: placing
def pNw (k f m : Int32) : Nat → Int32 := fun j => if j = 0 then k else if j = 1 then f else if j = 2 then m else 0
def sPut (k : Int32) (f m : Nat) (S : pSt) : pSt := (sN S + 1, pUp (sP S) (sN S) (pNw k (nI f) (nI m)), sQ S, sL S, sG S)
theorem pNw_W {k : Int32} {f m : Nat} (T : Nat) (hk : k = 1 ∨ k = 2 ∨ k = 3) (hf : f < 5) (hm : m ≤ 9) (hl : (if k = 3 then 0 else 1) ≤ m) : pWF T (pNw k (nI f) (nI m)) := by
  refine ⟨f, m, 0, 0, 0, ⟨hf, hm, by omega, by omega⟩, rfl, rfl, rfl, rfl, rfl, ?_⟩
  rcases hk with rfl | rfl | rfl
  · exact Or.inl ⟨rfl, hl, by omega, rfl, rfl⟩
  · exact Or.inr (Or.inl ⟨rfl, hl, by omega, rfl⟩)
  · exact Or.inr (Or.inr ⟨rfl, rfl, rfl, rfl⟩)
theorem sPut_W {T : Nat} {k : Int32} {f m : Nat} {S : pSt} (hk : k = 1 ∨ k = 2 ∨ k = 3) (hf : f < 5) (hm : m ≤ 9) (hl : (if k = 3 then 0 else 1) ≤ m) (hn : sN S < 12) (hc : pCn (sP S) k (nI f) (sN S) < 5) (H : pW T S) : pW T (sPut k f m S) := by
  obtain ⟨h1, h2, h3, h4, h5, h6⟩ := H
  refine ⟨hn, fun j hj => ?_, h3, h4, h5, fun f' hf' k' hk' => ?_⟩
  · have hj' : j < sN S + 1 := hj
    show pWF T (pUp (sP S) (sN S) (pNw k (nI f) (nI m)) j)
    by_cases z : j = sN S
    · subst z; rw [pUp_i]; exact pNw_W T hk hf hm hl
    · rw [pUp_n _ _ z]; exact h2 j (by omega)
  · have e : pCn (pUp (sP S) (sN S) (pNw k (nI f) (nI m))) k' (nI f') (sN S) = pCn (sP S) k' (nI f') (sN S) := pCn_eq k' (nI f') _ (fun j hj => by
      rw [pUp_n _ _ (by omega)]; exact ⟨rfl, rfl⟩)
    show pCn (pUp (sP S) (sN S) (pNw k (nI f) (nI m))) k' (nI f') (sN S) + _ ≤ 5
    have eu : sP (sPut k f m S) (sN S) = pNw k (nI f) (nI m) := pUp_i _ _ _
    rw [e, eu]
    have := h6 f' hf' k' hk'
    split
    · rename_i q
      have q0 : k = k' := q.1
      have q1 : nI f = nI f' := q.2
      rw [← q0, ← q1]; omega
    · omega
theorem pc_begin {w : qMem} {c : Nat} {k f m : Int32} : ∃ g : Nat → Int32, fX3_begin w c k f m = some (qur w c g) ∧ pAg g (pNw k f m) := by
  unfold fX3_begin
  simp only [pz_nm, pz_wr (w := w), pz_qq]
  refine ⟨_, rfl, fun j hj => ?_⟩
  rcases j with _ | _ | _ | _ | _ | _ | _ | j
  · simp [upd, pNw]
  · simp [upd, pNw]
  · simp [upd, pNw]
  · simp [upd, pNw]
  · simp [upd, pNw]
  · simp [upd, pNw]
  · simp [upd, pNw]
  · omega
theorem pr_b1 {w : qMem} {n i fuel : Nat} {k f m : Int32} (hn : n < 12) (hi : i < 7) : fX6_comes_L77 (fuel + 1) w k f m (nI n) (nI i) = fX6_comes_L77 fuel (quw w 239 (15 + 7 * n + i) (pNw k f m i)) k f m (nI n) (nI (i + 1)) := by
  simp only [fX6_comes_L77, pz_nm, nI_1]
  rw [if_neg (show ¬ (7 : Int32) ≤ nI i from nI_ge (b := 7) hi (by omega)), pz_set hn hi, pz_set hn hi, pz_set hn hi, pz_set hn hi, pz_b, pz_b, pz_b, pz_b]
  unfold pNw
  have c0 : (nI i = 0) ↔ i = 0 := by rw [show (0 : Int32) = nI 0 from rfl, nI_eq (by omega) (by omega)]
  have c1 : (nI i = 1) ↔ i = 1 := by rw [show (1 : Int32) = nI 1 from rfl, nI_eq (by omega) (by omega)]
  have c2 : (nI i = 2) ↔ i = 2 := by rw [show (2 : Int32) = nI 2 from rfl, nI_eq (by omega) (by omega)]
  by_cases z0 : i = 0
  · rw [if_pos (c0.mpr z0), if_pos z0]
  · rw [if_neg (fun z => z0 (c0.mp z)), if_neg z0]
    by_cases z1 : i = 1
    · rw [if_pos (c1.mpr z1), if_pos z1]
    · rw [if_neg (fun z => z1 (c1.mp z)), if_neg z1]
      by_cases z2 : i = 2
      · rw [if_pos (c2.mpr z2), if_pos z2]
      · rw [if_neg (fun z => z2 (c2.mp z)), if_neg z2]
theorem pr_b2 {n : Nat} {k f m : Int32} (hn : n < 12) : ∀ (d i fuel : Nat) (w : qMem), i + d = 7 → d < fuel → (∀ j, j < i → w 239 (15 + 7 * n + j) = pNw k f m j) → ∃ w1 : qMem, fX6_comes_L77 fuel w k f m (nI n) (nI i) = some (nI n, quw w1 239 0 (w1 239 0 + 1)) ∧ (∀ c, c ≠ 239 → w1 c = w c) ∧ (∀ j, (j < 15 + 7 * n ∨ 22 + 7 * n ≤ j) → w1 239 j = w 239 j) ∧ ∀ j, j < 7 → w1 239 (15 + 7 * n + j) = pNw k f m j
  | 0, i, fuel + 1, w, e, _, H => by
    have e : i = 7 := by omega
    subst e
    refine ⟨w, ?_, fun _ _ => rfl, fun _ _ => rfl, H⟩
    simp only [fX6_comes_L77, pz_nm]
    rw [if_pos (by decide)]
  | d + 1, i, fuel + 1, w, e, hf, H => by
    obtain ⟨w1, g1, g2, g3, g4⟩ := pr_b2 hn d (i + 1) fuel (quw w 239 (15 + 7 * n + i) (pNw k f m i)) (by omega) (by omega) (fun j hj => by
      by_cases z : j = i
      · subst z; exact pz_w
      · rw [pz_wk (by omega)]; exact H j (by omega))
    exact ⟨w1, by rw [pr_b1 hn (by omega)]; exact g1, fun c hc => (g2 c hc).trans (pz_rn hc), fun j hj => (g3 j hj).trans (pz_wk (by omega)), g4⟩
theorem po_put (T : Nat) {k : Int32} (hk : k = 1 ∨ k = 2 ∨ k = 3) (a b : Int32) : pDo T k a b (fun w => fX6_comes w k a b) (fun t => if t = 2 then 1 else if t = 3 then 2 else 0) := by
  intro S hW
  have hn := hW.1
  have hq := hW.2.2.1
  have hO : ∀ w : qMem, fX5_tryOrder w k a b = qbd2 (fX5_tryPlacing_L10 w k a b (if k = 3 then 0 else 1)) fun (r19 : Int32) (w20 : qMem) => some (r19, w20) := fun w => by
    unfold fX5_tryOrder fX5_tryPlacing
    rcases hk with rfl | rfl | rfl <;> rfl
  have hR : ∀ w : qMem, fX6_comes w k a b = qbd (fX6_isFloor w a) fun (r3 : Int32) => if r3 = 0 then qbd2 (fX6_fails w 1) fun (r6 : Int32) (w7 : qMem) => some (r6, w7) else fX6_comes_L26 w k a b (w 239 0) (if k = 3 then 0 else 1) b := fun w => by
    unfold fX6_comes
    rcases hk with rfl | rfl | rfl <;> rfl
  have bad : ∀ (Q : Prop), Q → (∀ w : qMem, pH w 0 S → fX5_tryPlacing_L10 w k a b (if k = 3 then 0 else 1) = some (2, w)) → (∀ w : qMem, pR (w 239) S → fX6_comes w k a b = some (0, quw w 238 7 1)) → ∃ (t v rs dt : Int32) (S' : pSt), pW (T + 100) S' ∧ (t = 0 ∨ t = 1 ∨ t = 2 ∨ t = 3) ∧ (t ≠ 0 → S' = S ∧ ((if t = 2 then (1 : Int32) else if t = 3 then 2 else 0) = 1 ∨ (if t = 2 then (1 : Int32) else if t = 3 then 2 else 0) = 2 ∨ (if t = 2 then (1 : Int32) else if t = 3 then 2 else 0) = 3)) ∧ (∀ w : qMem, pH w 0 S → ∃ w1 : qMem, fX5_tryOrder w k a b = some (t, w1) ∧ pOc w w1 t v rs dt S') ∧ ∀ w : qMem, pR (w 239) S → ∃ (r : Int32) (w1 : qMem), fX6_comes w k a b = some (r, w1) ∧ pOr w w1 t (if t = 2 then 1 else if t = 3 then 2 else 0) v rs dt r S' := by
    intro Q _ h1 h2
    refine ⟨2, 0, 0, 0, S, hW.mo (by omega), by decide, fun _ => ⟨rfl, by decide⟩, fun w H => ⟨w, ?_, pOc.no 0 0 0 H (by decide) (by decide)⟩, fun w H => ⟨0, _, h2 w H, pOr.no 0 0 0 0 H (by decide) (by decide)⟩⟩
    rw [hO, h1 w H, pz_b2]
  rcases pj_floor a with ⟨⟨f, hf, ef⟩, q1, q2⟩ | ⟨q1, q2⟩
  · have hlo : (if k = 3 then (0 : Int32) else 1) = nI (if k = 3 then 0 else 1) := by split <;> rfl
    rcases pj_in (if k = 3 then 0 else 1) 9 (by decide) (by split <;> omega) b with ⟨m, m1, m2, eb, b1, b2⟩ | bb
    · rw [← hlo] at b1
      have b2 : ¬ (9 : Int32) < b := b2
      have b3 : b ≤ 9 := by rw [eb]; exact nI_le (b := 9) m2 (by decide)
      have hin : ∀ w, fX6_in w b (if k = 3 then 0 else 1) 9 = some 1 := fun w => by unfold fX6_in; rw [if_neg b1, if_neg b2]
      by_cases hfull : sN S = 12
      · refine ⟨3, 0, 1, 12, S, hW.mo (by omega), by decide, fun _ => ⟨rfl, by decide⟩, fun w H => ⟨_, ?_, pOc.rf 0 1 12 hW H⟩, fun w H => ⟨0, _, ?_, pOr.rf 0 1 12 0 H⟩⟩
        · have e2 : w 0 2 = 12 := by have := H.1.1; rw [hfull] at this; exact this
          rw [hO]; unfold fX5_tryPlacing_L10
          rw [q1, pz_b, if_neg (by decide), if_neg b1, if_pos b3, e2, if_neg (by decide), pc_ref, pz_b2, pz_b2]
        · have e2 : w 239 0 = 12 := by have := H.1.1; rw [hfull] at this; exact this
          show fX6_comes w k a b = _
          rw [hR, q2, pz_b, if_neg (by decide), e2]; unfold fX6_comes_L26
          rw [hin, pz_b, if_neg (by decide), if_pos rfl, pr_ref, pz_b2]; rfl
      · have hlt : sN S < 12 := by omega
        have ne12 : ¬ nI (sN S) = 12 := fun z => hfull ((nI_eq (by omega) (by decide)).mp (z.trans (show (12 : Int32) = nI 12 from rfl)))
        have c5 := hW.2.2.2.2.2 f hf k hk
        have hcl : pCn (sP S) k a (sN S) = pCn (sP S) k (nI f) (sN S) := by rw [ef]
        by_cases hflr : pCn (sP S) k (nI f) (sN S) = 5
        · refine ⟨3, 0, 2, a, S, hW.mo (by omega), by decide, fun _ => ⟨rfl, by decide⟩, fun w H => ⟨_, ?_, pOc.rf 0 2 a hW H⟩, fun w H => ⟨0, _, ?_, pOr.rf 0 2 a 0 H⟩⟩
          · have e2 : w 0 2 = nI (sN S) := H.1.1
            rw [hO]; unfold fX5_tryPlacing_L10
            rw [q1, pz_b, if_neg (by decide), if_neg b1, if_pos b3, e2, if_pos (show nI (sN S) < (12 : Int32) from nI_lt (b := 12) hlt (by decide)), pc_countOn (h := 0) (by decide) hn H.1, pz_b, hcl, hflr, if_neg (by decide), pc_ref, pz_b2, pz_b2]
          · have e2 : w 239 0 = nI (sN S) := H.1.1
            show fX6_comes w k a b = _
            rw [hR, q2, pz_b, if_neg (by decide), e2]; unfold fX6_comes_L26
            rw [hin, pz_b, if_neg (by decide), if_neg ne12, pr_there hn H.1, pz_b, hcl, hflr, if_pos (by rfl), pr_ref, pz_b2]; rfl
        · have hc : pCn (sP S) k (nI f) (sN S) < 5 := by omega
          refine ⟨0, nI (sN S), 0, 0, sPut k f m S, (sPut_W hk hf m2 m1 hlt hc hW).mo (by omega), by decide, fun q => absurd rfl q, fun w H => ?_, fun w H => ?_⟩
          · have e2 : w 0 2 = nI (sN S) := H.1.1
            obtain ⟨g, eg, ag⟩ := pc_begin (w := quw w 0 2 (nI (sN S + 1))) (c := 2 + sN S) (k := k) (f := a) (m := b)
            refine ⟨quw (qur (quw w 0 2 (nI (sN S + 1))) (2 + sN S) g) 228 10 (nI (sN S)), ?_, pOc.ok 0 0 (pH_28 _ (sPut_W hk hf m2 m1 hlt hc hW) ?_) (fun c c1 c2 => ?_) ?_⟩
            · have eP : fX0_placeProp w 0 k a b = some (nI (sN S), qur (quw w 0 2 (nI (sN S + 1))) (2 + sN S) g) := by
                have e2' : w (19 * 0) 2 = nI (sN S) := H.1.1
                unfold fX0_placeProp
                rw [pz_nm, e2', pz_nm, nI_1, pz_at (h := 0) (n := sN S + 1) (by decide) (by omega) (by omega) pz_w, pz_b, if_pos (pz_P (by decide) (by omega)), show 19 * 0 + 2 + sN S = 2 + sN S by omega]
                have eg' : fX3_begin (quw w (19 * 0) 2 (nI (sN S + 1))) (2 + sN S) k a b = some (qur (quw w 0 2 (nI (sN S + 1))) (2 + sN S) g) := eg
                rw [eg', pz_b]
              rw [hO]; unfold fX5_tryPlacing_L10
              rw [q1, pz_b, if_neg (by decide), if_neg b1, if_pos b3, e2, if_pos (show nI (sN S) < (12 : Int32) from nI_lt (b := 12) hlt (by decide)), pc_countOn (h := 0) (by decide) hn H.1, pz_b, hcl, if_pos (show nI (pCn (sP S) k (nI f) (sN S)) < (5 : Int32) from nI_lt (b := 5) hc (by decide)), eP, pz_b2, pc_ans, pz_b2, pz_b2]
            · obtain ⟨⟨H1, H2⟩, H3, H4, H5⟩ := H
              refine ⟨⟨?_, fun j hj => ?_⟩, ?_, fun j hj => ?_, fun k hk => ?_⟩
              · rw [pz_rn (by omega)]; exact pz_w
              · have hj' : j < sN S + 1 := hj
                show pAg _ (pUp (sP S) (sN S) (pNw k (nI f) (nI m)) j)
                rw [show 19 * 0 + 2 + j = 2 + j by omega]
                by_cases z : j = sN S
                · subst z; rw [pz_r, pUp_i, ← ef, ← eb]; exact ag
                · have := H2 j (by omega)
                  rw [show 19 * 0 + 2 + j = 2 + j by omega] at this
                  rw [pz_rn (by omega), pz_wr, pz_rn (by omega), pUp_n _ _ z]; exact this
              · rw [pz_rn (by omega), pz_wk (by decide)]; exact H3
              · rw [pz_rn (by omega), pz_wn (by decide)]; exact H4 j hj
              · rw [pz_rn (by omega), pz_wk (by omega)]; exact H5 k hk
            · rw [pz_wr, pz_rn c2, pz_rn (by omega), pz_wr, pz_rn (by omega)]
            · rw [pz_wr, pz_r, pz_rn (by omega), pz_wr, pz_rn (by decide)]
          · have e2 : w 239 0 = nI (sN S) := H.1.1
            obtain ⟨w1, g1, g2, g3, g4⟩ := pr_b2 (n := sN S) (k := k) (f := a) (m := b) hlt 7 0 100 w (by omega) (by omega) (fun j hj => absurd hj (by omega))
            refine ⟨nI (sN S), _, ?_, pOr.ok _ 0 0 (w1 := quw w1 239 0 (w1 239 0 + 1)) ?_ (fun c c1 c2 => ?_) (fun k _ => ?_)⟩
            · show fX6_comes w k a b = _
              rw [hR, q2, pz_b, if_neg (by decide), e2]; unfold fX6_comes_L26
              rw [hin, pz_b, if_neg (by decide), if_neg ne12, pr_there hn H.1, pz_b, hcl, if_neg (fun z => hflr ((nI_eq (by omega) (by decide)).mp (z.trans (show (5 : Int32) = nI 5 from rfl))))]
              exact g1
            · obtain ⟨⟨H1, H2⟩, H3, H4, H5⟩ := H
              refine ⟨⟨?_, fun j hj => ?_⟩, ?_, fun j hj => ?_, fun k hk => ?_⟩
              · rw [pz_w, g3 _ (by omega), H1, nI_1]; rfl
              · have hj' : j < sN S + 1 := hj
                show pAg _ (pUp (sP S) (sN S) (pNw k (nI f) (nI m)) j)
                by_cases z : j = sN S
                · subst z; rw [pUp_i, ← ef, ← eb]
                  intro x hx
                  unfold pzS
                  rw [pz_wk (by omega)]; exact g4 x hx
                · rw [pUp_n _ _ z]
                  intro x hx
                  have := H2 j (by omega) x hx
                  unfold pzS at this ⊢
                  rw [pz_wk (by omega), g3 _ (by omega)]; exact this
              · rw [pz_wk (by decide), g3 _ (by omega)]; exact H3
              · have hj' : j < sQ S := hj
                rw [pz_wk (by omega), g3 _ (by omega)]; exact H4 j hj
              · rw [pz_wk (by omega), g3 _ (by omega)]; exact H5 k hk
            · rw [pz_wr, pz_rn c2]; exact g2 c c2
            · rw [pz_wn (by decide), g2 238 (by decide)]
    · refine bad True trivial (fun w H => ?_) (fun w H => ?_)
      · unfold fX5_tryPlacing_L10
        rw [q1, pz_b, if_neg (by decide)]
        rcases bb with z | ⟨z1, z2⟩
        · rw [← hlo] at z; rw [if_pos z]
        · rw [← hlo] at z1; rw [if_neg z1, if_neg (fun y => by
            have z2 : (9 : Int32) < b := z2
            rw [Int32.lt_iff_toInt_lt] at z2
            rw [Int32.le_iff_toInt_le] at y
            omega)]
      · rw [hR, q2, pz_b, if_neg (by decide)]; unfold fX6_comes_L26
        have hin : fX6_in w b (if k = 3 then 0 else 1) 9 = some 0 := by
          unfold fX6_in
          rcases bb with z | ⟨z1, z2⟩
          · rw [← hlo] at z; rw [if_pos z]
          · have z2 : (9 : Int32) < b := z2
            rw [← hlo] at z1; rw [if_neg z1, if_pos z2]
        rw [hin, pz_b, if_pos rfl, pr_fail, pz_b2]
  · refine bad True trivial (fun w H => ?_) (fun w H => ?_)
    · unfold fX5_tryPlacing_L10
      rw [q1, pz_b, if_pos rfl]
    · rw [hR, q2, pz_b, if_pos rfl, pr_fail, pz_b2]
