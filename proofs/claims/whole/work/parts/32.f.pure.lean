-- all orders read by class and reference
theorem pCs.k {w w1 : qMem} {t : Nat → Int32} {L o o' i : Nat} (H : pCs w t L o) (f : pKf w w1 i o') : pCs w1 t L o' := ⟨(f.2.1 1 (by decide)).trans H.1, f.2.2.1, fun j hj => by rw [f.1 232 (by decide) (by decide) (by decide) (by decide)]; exact H.2.2 j hj⟩
theorem pRs.qf {w w1 : qMem} {t : Nat → Int32} {L o o' i : Nat} {e e' : Int32} (H : pRs w t L o e) (f : pQf w w1 i o' e') : pRs w1 t L o' e' := ⟨(f.2.1 15 (by decide) (by decide) (by decide)).trans H.1, f.2.2.1, f.2.2.2.1, fun j hj => by rw [f.1 245 (by decide) (by decide)]; exact H.2.2.2 j hj⟩
theorem pDd.tr {D : qMem → Option (Int32 × qMem)} {i : Nat} {w1 w2 : qMem} (h : pDd D i w1) (e : ∀ j, j < 3 * i + 3 → w2 246 j = w1 246 j) : pDd D i w2 := fun w' a b c => h w' (by rw [a, e _ (by omega)]) (by rw [b, e _ (by omega)]) (by rw [c, e _ (by omega)])
def pLc (w w1 : qMem) (i : Nat) : Prop := (∀ c, c ≠ 231 → c ≠ 233 → c ≠ 234 → c ≠ 235 → w1 c = w c) ∧ (∀ k, k ≠ 5 → k ≠ 6 → w1 231 k = w 231 k) ∧ ∀ j, j < i → w1 233 j = w 233 j ∧ w1 234 j = w 234 j ∧ w1 235 j = w 235 j
def pLr (w w1 : qMem) (i : Nat) : Prop := (∀ c, c ≠ 238 → c ≠ 246 → w1 c = w c) ∧ (∀ k, k ≠ 15 → k ≠ 16 → k ≠ 17 → k ≠ 18 → k ≠ 20 → w1 238 k = w 238 k) ∧ ∀ j, j < 3 * i → w1 246 j = w 246 j
/-- the reference's end of reading -/
def pWe (w : qMem) (e p : Int32) : qMem := quw (quw (quw w 238 17 e) 238 18 p) 238 15 0
theorem pWe_k (w : qMem) (e p : Int32) : (∀ c, c ≠ 238 → pWe w e p c = w c) ∧ (∀ k, k ≠ 15 → k ≠ 17 → k ≠ 18 → pWe w e p 238 k = w 238 k) ∧ pWe w e p 238 15 = 0 ∧ pWe w e p 238 17 = e ∧ pWe w e p 238 18 = p := by
  unfold pWe
  exact ⟨fun c h => by rw [pz_wr, pz_rn h, pz_wr, pz_rn h, pz_wr, pz_rn h], fun k h1 h2 h3 => by rw [pz_wk h1, pz_wk h3, pz_wk h2], pz_w, by rw [pz_wk (by decide), pz_wk (by decide), pz_w], by rw [pz_wk (by decide), pz_w]⟩
theorem pr_19e {w : qMem} {t : Nat → Int32} {L o : Nat} {e : Int32} (hL : L ≤ 60) (ho : o ≤ L) (H : pRs w t L o e) (h : e = 1 ∨ (e = 0 ∧ o < L ∧ ¬ t o = 59)) (fuel : Nat) : fX6_run_L19 (fuel + 1) w = (qbd2 (fX6_fails (pWe w 1 (nI o)) 1) fun (r : Int32) (w2 : qMem) => some (r, w2)) := by
  have i0 : fX6_isHere w 59 59 = some 0 := by
    rcases h with h | ⟨h, h1, h2⟩
    · subst h; exact pr_h1 H _ _
    · subst h; rw [pr_h0 hL ho H, if_neg (fun q => h2 (pj_lt1.mp ⟨q.2.1, q.2.2⟩))]
  have r16 : quw w 238 17 1 238 16 = nI o := by rw [pz_wk (by decide)]; exact H.2.1
  have r17 : quw (quw (quw w 238 17 1) 238 18 (nI o)) 238 15 0 238 17 = 1 := (pWe_k w 1 (nI o)).2.2.2.1
  rw [fX6_run_L19, i0, pz_b, if_pos rfl]
  rcases h with h | ⟨h, h1, h2⟩
  · rw [if_neg (show ¬ w 238 17 = 0 by rw [H.2.2.1, h]; decide), pz_nm, pz_w, if_neg (by decide), r16, pz_nm, pz_nm, r17, if_neg (by decide)]
    rfl
  · rw [if_pos (show w 238 17 = 0 by rw [H.2.2.1, h]), if_neg (show ¬ w 238 15 ≤ w 238 16 by rw [H.1, H.2.1]; exact nI_ge h1 (by omega)), pz_nm, pz_w, if_neg (by decide), r16, pz_nm, pz_nm, r17, if_neg (by decide)]
    rfl
theorem pr_19s {w : qMem} {t : Nat → Int32} {L : Nat} (hL : L ≤ 60) (H : pRs w t L L 0) (fuel : Nat) : fX6_run_L19 (fuel + 1) w = (qbd (fX6_keep (pWe w 0 (-1))) fun (w2 : qMem) => fX6_run_L117 100 w2 0) := by
  have i0 : fX6_isHere w 59 59 = some 0 := by rw [pr_h0 hL (Nat.le_refl _) H, if_neg (fun q => absurd q.1 (Nat.lt_irrefl _))]
  have r17 : quw (quw (quw w 238 17 0) 238 18 (-1)) 238 15 0 238 17 = 0 := (pWe_k w 0 (-1)).2.2.2.1
  rw [fX6_run_L19, i0, pz_b, if_pos rfl, if_pos H.2.2.1, if_pos (show w 238 15 ≤ w 238 16 by rw [H.1, H.2.1]; exact nI_le (Nat.le_refl _) (by omega)), pz_nm, pz_w, if_pos rfl, pz_nm, pz_nm, r17, if_pos rfl]
  rfl
def pRead (t : Nat → Int32) (L d i o : Nat) : Prop := ∃ (N q : Nat) (ok : Bool) (K A B : Nat → Int32) (D : Nat → qMem → Option (Int32 × qMem)) (E : Nat → Int32 → Int32), N ≤ 12 ∧ q ≤ 60 ∧ (ok = true → ∀ j, i ≤ j → j < N → ∀ T, pDo T (K j) (A j) (B j) (D j) (E j)) ∧ (∀ (w : qMem) (fuel : Nat), d < fuel → pCs w t L o → w 231 5 = nI i → ∃ w1 : qMem, fX4_read_L12 fuel w (nI i) = some (if ok = true then -1 else nI q, w1) ∧ pLc w w1 i ∧ (ok = true → w1 231 5 = nI N ∧ ∀ j, i ≤ j → j < N → w1 233 j = K j ∧ w1 234 j = A j ∧ w1 235 j = B j)) ∧ ∀ (w : qMem) (fuel : Nat), d < fuel → pRs w t L o 0 → w 238 20 = nI i → ∃ w1 : qMem, (qbd (fX6_readOrder w) fun (w5 : qMem) => fX6_run_L19 fuel w5) = (if ok = true then qbd (fX6_keep w1) fun (w2 : qMem) => fX6_run_L117 100 w2 0 else qbd2 (fX6_fails w1 1) fun (r : Int32) (w2 : qMem) => some (r, w2)) ∧ pLr w w1 i ∧ w1 238 15 = 0 ∧ w1 238 18 = (if ok = true then -1 else nI q) ∧ (ok = true → w1 238 20 = nI N ∧ ∀ j, i ≤ j → j < N → pDd (D j) j w1)
theorem pLr.e {w w5 : qMem} {i o : Nat} {e e1 p : Int32} (f : pQf w w5 i o e) : pLr w (pWe w5 e1 p) i := by
  obtain ⟨k1, k2, k3, k4, k5⟩ := pWe_k w5 e1 p
  exact ⟨fun c h1 h2 => by rw [k1 c h1, f.1 c h1 h2], fun k h1 h2 h3 h4 h5 => by rw [k2 k h1 h3 h4, f.2.1 k h2 h3 h5], fun j hj => by rw [k1 246 (by decide)]; exact f.2.2.2.2.2 j hj⟩
theorem pb_read {t : Nat → Int32} {L : Nat} (hL : L ≤ 60) : ∀ (d i o : Nat), i + d = 11 → o ≤ L → 6 * i ≤ o → pRead t L d i o
  | 0, i, o, e, ho, h6 => by exfalso; omega
  | d + 1, i, o, e, ho, h6 => by
    obtain ⟨o', ok1, k, a, b, D1, E1, h1, h2, h3, hc, hr⟩ := pb_ord (t := t) hL ho
    by_cases z : ok1 = true
    · obtain ⟨h5, hD⟩ := h3 z
      have st : ∀ (w : qMem) (fuel : Nat), pCs w t L o → w 231 5 = nI i → ∃ w6 : qMem, pKf w w6 i o' ∧ (w6 233 i = k ∧ w6 234 i = a ∧ w6 235 i = b) ∧ pCs (quw w6 231 5 (nI (i + 1))) t L o' ∧ fX4_read_L12 (fuel + 1) w (nI i) = (if o' < L then qbd2 (fX4_readSign (quw w6 231 5 (nI (i + 1))) 59) fun (r11 : Int32) (w12 : qMem) => if r11 = 0 then some (w12 231 6, w12) else fX4_read_L12 fuel w12 (nI (i + 1)) else some ((-1), quw w6 231 5 (nI (i + 1)))) := fun w fuel H h5 => by
        obtain ⟨w6, e6, f6, v6⟩ := hc w i (by omega) H
        have H6 := H.k f6
        have g5 : w6 231 5 = nI i := (f6.2.1 5 (by decide)).trans h5
        have H8 : pCs (quw w6 231 5 (nI (i + 1))) t L o' := ⟨by rw [pz_wk (by decide)]; exact H6.1, by rw [pz_wk (by decide)]; exact H6.2.1, fun j hj => by rw [pz_wn (by decide)]; exact H6.2.2 j hj⟩
        refine ⟨w6, f6, v6 z, H8, ?_⟩
        rw [if_pos z] at e6
        rw [fX4_read_L12, if_neg (show ¬ (12 : Int32) ≤ nI i from nI_ge (b := 12) (by omega) (by omega)), e6, pz_b2, if_neg (by decide), g5, nI_1, pz_nm, H8.1, H8.2.1]
        by_cases y : o' < L
        · rw [if_pos (nI_lt y (by omega)), if_pos y]; rfl
        · rw [if_neg (nI_nlt (by omega) (by omega)), if_neg y]
      have sr : ∀ (w : qMem), pRs w t L o 0 → w 238 20 = nI i → ∃ w5 : qMem, fX6_readOrder w = some w5 ∧ pQf w w5 i o' 0 ∧ pDd D1 i w5 ∧ pRs w5 t L o' 0 := fun w H h20 => by
        obtain ⟨w5, e5, f5, v5⟩ := hr w i (by omega) H h20
        rw [if_pos z] at f5
        exact ⟨w5, e5, f5, v5 z, H.qf f5⟩
      by_cases y : o' < L
      · by_cases x : t o' = 59
        · obtain ⟨N, q, ok, K, A, B, D, E, g1, g2, g3, g4, g5⟩ := pb_read (t := t) hL d (i + 1) (o' + 1) (by omega) (by omega) (by omega)
          refine ⟨N, q, ok, fun j => if j = i then k else K j, fun j => if j = i then a else A j, fun j => if j = i then b else B j, fun j => if j = i then D1 else D j, fun j => if j = i then E1 else E j, g1, g2, fun hok j j1 j2 T => ?_, fun w fuel hf H h5 => ?_, fun w fuel hf H h20 => ?_⟩
          · by_cases ej : j = i
            · simp only [if_pos ej]; exact hD T
            · simp only [if_neg ej]; exact g3 hok j (by omega) j2 T
          · rcases fuel with _ | fuel
            · omega
            · obtain ⟨w6, f6, v6, H8, e8⟩ := st w fuel H h5
              obtain ⟨w12, e12, f12⟩ := pc_sg1 hL h2 H8 ⟨y, x⟩
              obtain ⟨w1, e1, l1, v1⟩ := g4 w12 fuel (by omega) (H8.f f12) (by rw [f12.2.1 5 (by decide), pz_w])
              have k233 : ∀ j, w12 233 j = w6 233 j ∧ w12 234 j = w6 234 j ∧ w12 235 j = w6 235 j := fun j => ⟨by rw [f12.1 233 (by decide), pz_wn (by decide)], by rw [f12.1 234 (by decide), pz_wn (by decide)], by rw [f12.1 235 (by decide), pz_wn (by decide)]⟩
              refine ⟨w1, ?_, ⟨fun c c1 c2 c3 c4 => ?_, fun k k1 k2 => ?_, fun j hj => ?_⟩, fun hok => ⟨(v1 hok).1, fun j j1 j2 => ?_⟩⟩
              · rw [e8, if_pos y, e12, pz_b2, if_neg (by decide)]; exact e1
              · rw [l1.1 c c1 c2 c3 c4, f12.1 c c1, pz_wr, pz_rn c1, f6.1 c c1 c2 c3 c4]
              · rw [l1.2.1 k k1 k2, f12.2.1 k k2, pz_wk k1, f6.2.1 k k2]
              · obtain ⟨p1, p2, p3⟩ := l1.2.2 j (by omega)
                obtain ⟨q1, q2, q3⟩ := k233 j
                obtain ⟨r1, r2, r3⟩ := f6.2.2.2 j (by omega)
                exact ⟨p1.trans (q1.trans r1), p2.trans (q2.trans r2), p3.trans (q3.trans r3)⟩
              · by_cases ej : j = i
                · simp only [if_pos ej]
                  subst ej
                  obtain ⟨p1, p2, p3⟩ := l1.2.2 j (by omega)
                  obtain ⟨q1, q2, q3⟩ := k233 j
                  exact ⟨p1.trans (q1.trans v6.1), p2.trans (q2.trans v6.2.1), p3.trans (q3.trans v6.2.2)⟩
                · simp only [if_neg ej]; exact (v1 hok).2 j (by omega) j2
          · rcases fuel with _ | fuel
            · omega
            · obtain ⟨w5, e5, f5, v5, H5⟩ := sr w H h20
              have H83 : pRs (quw w5 238 16 (nI (o' + 1))) t L (o' + 1) 0 := ⟨by rw [pz_wk (by decide)]; exact H5.1, pz_w, by rw [pz_wk (by decide)]; exact H5.2.2.1, fun j hj => by rw [pz_wn (by decide)]; exact H5.2.2.2 j hj⟩
              obtain ⟨w1, e1, l1, v15, v18, v1⟩ := g5 (quw w5 238 16 (nI (o' + 1))) fuel (by omega) H83 (by rw [pz_wk (by decide)]; exact f5.2.2.2.2.1)
              refine ⟨w1, ?_, ⟨fun c c1 c2 => ?_, fun k k1 k2 k3 k4 k5 => ?_, fun j hj => ?_⟩, v15, v18, fun hok => ⟨(v1 hok).1, fun j j1 j2 => ?_⟩⟩
              · have i1 : fX6_isHere w5 59 59 = some 1 := by
                  rw [pr_h0 hL h2 H5, if_pos]
                  have := pj_lt1.mpr x
                  exact ⟨y, this.1, this.2⟩
                rw [e5, pz_b, fX6_run_L19, i1, pz_b, if_neg (by decide), H5.2.1, nI_1, pz_nm]
                exact e1
              · rw [l1.1 c c1 c2, pz_wr, pz_rn c1, f5.1 c c1 c2]
              · rw [l1.2.1 k k1 k2 k3 k4 k5, pz_wk k2, f5.2.1 k k2 k3 k5]
              · rw [l1.2.2 j (by omega), pz_wn (by decide), f5.2.2.2.2.2 j hj]
              · by_cases ej : j = i
                · simp only [if_pos ej]
                  subst ej
                  exact v5.tr (fun u hu => by rw [l1.2.2 u (by omega), pz_wn (by decide)])
                · simp only [if_neg ej]; exact (v1 hok).2 j (by omega) j2
        · refine ⟨i, o', false, fun _ => 0, fun _ => 0, fun _ => 0, fun _ _ => none, fun _ _ => 0, by omega, by omega, fun q => absurd q (by decide), fun w fuel hf H h5 => ?_, fun w fuel hf H h20 => ?_⟩
          · rcases fuel with _ | fuel
            · omega
            · obtain ⟨w6, f6, v6, H8, e8⟩ := st w fuel H h5
              refine ⟨quw w6 231 5 (nI (i + 1)), ?_, ⟨fun c c1 c2 c3 c4 => ?_, fun k k1 k2 => ?_, fun j hj => ?_⟩, fun q => absurd q (by decide)⟩
              · rw [e8, if_pos y, pc_sg0 hL h2 H8 (fun q => x q.2), pz_b2, if_pos rfl, H8.2.1]; rfl
              · rw [pz_wr, pz_rn c1, f6.1 c c1 c2 c3 c4]
              · rw [pz_wk k1, f6.2.1 k k2]
              · rw [pz_wn (by decide), pz_wn (by decide), pz_wn (by decide)]; exact f6.2.2.2 j (by omega)
          · rcases fuel with _ | fuel
            · omega
            · obtain ⟨w5, e5, f5, v5, H5⟩ := sr w H h20
              obtain ⟨_, _, k3, _, k5⟩ := pWe_k w5 1 (nI o')
              refine ⟨pWe w5 1 (nI o'), ?_, pLr.e f5, k3, k5, fun q => absurd q (by decide)⟩
              rw [e5, pz_b, pr_19e hL h2 H5 (Or.inr ⟨rfl, y, x⟩)]; rfl
      · have eo : o' = L := by omega
        refine ⟨i + 1, 0, true, fun _ => k, fun _ => a, fun _ => b, fun _ => D1, fun _ => E1, by omega, by omega, fun _ j _ _ T => hD T, fun w fuel hf H h5 => ?_, fun w fuel hf H h20 => ?_⟩
        · rcases fuel with _ | fuel
          · omega
          · obtain ⟨w6, f6, v6, H8, e8⟩ := st w fuel H h5
            refine ⟨quw w6 231 5 (nI (i + 1)), ?_, ⟨fun c c1 c2 c3 c4 => ?_, fun k k1 k2 => ?_, fun j hj => ?_⟩, fun _ => ⟨pz_w, fun j j1 j2 => ?_⟩⟩
            · rw [e8, if_neg y]; rfl
            · rw [pz_wr, pz_rn c1, f6.1 c c1 c2 c3 c4]
            · rw [pz_wk k1, f6.2.1 k k2]
            · rw [pz_wn (by decide), pz_wn (by decide), pz_wn (by decide)]; exact f6.2.2.2 j (by omega)
            · have ej : j = i := by omega
              subst ej
              rw [pz_wn (by decide), pz_wn (by decide), pz_wn (by decide)]; exact v6
        · rcases fuel with _ | fuel
          · omega
          · obtain ⟨w5, e5, f5, v5, H5⟩ := sr w H h20
            obtain ⟨k1, k2, k3, _, k5⟩ := pWe_k w5 0 (-1)
            refine ⟨pWe w5 0 (-1), ?_, pLr.e f5, k3, k5, fun _ => ⟨by rw [k2 20 (by decide) (by decide) (by decide)]; exact f5.2.2.2.2.1, fun j j1 j2 => ?_⟩⟩
            · rw [eo] at H5
              rw [e5, pz_b, pr_19s hL H5]; rfl
            · have ej : j = i := by omega
              subst ej
              exact v5.tr (fun u _ => by rw [k1 246 (by decide)])
    · refine ⟨i, o', false, fun _ => 0, fun _ => 0, fun _ => 0, fun _ _ => none, fun _ _ => 0, by omega, by omega, fun q => absurd q (by decide), fun w fuel hf H h5 => ?_, fun w fuel hf H h20 => ?_⟩
      · rcases fuel with _ | fuel
        · omega
        · obtain ⟨w6, e6, f6, _⟩ := hc w i (by omega) H
          rw [if_neg z] at e6
          refine ⟨w6, ?_, ⟨f6.1, fun k _ k2 => f6.2.1 k k2, fun j hj => f6.2.2.2 j (by omega)⟩, fun q => absurd q (by decide)⟩
          rw [fX4_read_L12, if_neg (show ¬ (12 : Int32) ≤ nI i from nI_ge (b := 12) (by omega) (by omega)), e6, pz_b2, if_pos rfl, f6.2.2.1]; rfl
      · rcases fuel with _ | fuel
        · omega
        · obtain ⟨w5, e5, f5, _⟩ := hr w i (by omega) H h20
          rw [if_neg z] at f5
          obtain ⟨_, _, k3, _, k5⟩ := pWe_k w5 1 (nI o')
          refine ⟨pWe w5 1 (nI o'), ?_, pLr.e f5, k3, k5, fun q => absurd q (by decide)⟩
          rw [e5, pz_b, pr_19e hL h2 (H.qf f5) (Or.inl rfl)]; rfl
