-- calls that only look
theorem ph_cg2 {w w' : qMem} {h T : Nat} {S : pSt} (hW : pW T S) (e : ∀ c, 19 * h ≤ c → c < 19 * h + 16 → w' c = w c) (H : pH w h S) : pH w' h S := by
  obtain ⟨hn, hP, hq, hL, hG, _⟩ := hW
  obtain ⟨⟨H1, H2⟩, H3, H4, H5⟩ := H
  have e0 : w' (19 * h) = w (19 * h) := e _ (by omega) (by omega)
  exact ⟨⟨by rw [e0]; exact H1, fun i hi k hk => by rw [e _ (by omega) (by omega)]; exact H2 i hi k hk⟩, by rw [e0]; exact H3, fun j hj => by rw [e _ (by omega) (by omega)]; exact H4 j hj, fun k hk => by rw [e0]; exact H5 k hk⟩
theorem pI_obs {T : Nat} {w w' : qMem} (H : pI T w) (h1 : ∀ c, c < 238 → ¬ (16 ≤ c ∧ c < 38) → w' c = w c) (h2 : ∀ k, k ≠ 7 → k ≠ 11 → w' 238 k = w 238 k) (h3 : ∀ k, k < 99 → w' 239 k = w 239 k) (h4 : ∀ c, 242 ≤ c → w' c = w c) : pI T w' := by
  obtain ⟨⟨S, s1, s2, s3⟩, ⟨d, x, hd, hx, a1, a2, a3, a4⟩, hv, ⟨n, hn, t1, t2, t3⟩, ⟨m, hm, l1, l2, l3⟩, e8, e9, e7⟩ := H
  refine ⟨⟨S, s1, ph_cg2 s1 (fun c c1 c2 => h1 c (by omega) (by omega)) s2, pr_cg s1 h3 s3⟩, ⟨d, x, hd, hx, ?_, ?_, ?_, fun j hj => ?_⟩, ?_, ⟨n, hn, ?_, ?_, fun j hj => ?_⟩, ⟨m, hm, ?_, ?_, fun j hj => ?_⟩, ?_, ?_, ?_⟩
  · rw [h1 229 (by decide) (by decide)]; exact a1
  · rw [h1 229 (by decide) (by decide)]; exact a2
  · rw [h2 6 (by decide) (by decide)]; exact a3
  · obtain ⟨S, s1, s2, s3⟩ := a4 j hj
    exact ⟨S, s1, ph_cg2 s1 (fun c c1 c2 => h1 c (by omega) (by omega)) s2, by rw [h4 243 (by decide)]; exact s3⟩
  · rcases hv with ⟨a, b⟩ | ⟨a, b, S, hW, hS2, hR2⟩
    · exact Or.inl ⟨by rw [h1 228 (by decide) (by decide)]; exact a, by rw [h2 4 (by decide) (by decide)]; exact b⟩
    · exact Or.inr ⟨by rw [h1 228 (by decide) (by decide)]; exact a, by rw [h2 4 (by decide) (by decide)]; exact b, S, hW, ph_cg2 hW (fun c c1 c2 => h1 c (by omega) (by omega)) hS2, by rw [h4 242 (by decide)]; exact hR2⟩
  · rw [h1 231 (by decide) (by decide)]; exact t1
  · rw [h2 15 (by decide) (by decide)]; exact t2
  · rw [h1 232 (by decide) (by decide), h4 245 (by decide)]; exact t3 j hj
  · rw [h1 236 (by decide) (by decide)]; exact l1
  · rw [h2 13 (by decide) (by decide)]; exact l2
  · rw [h1 237 (by decide) (by decide), h4 244 (by decide)]; exact l3 j hj
  · rw [h1 228 (by decide) (by decide), h2 8 (by decide) (by decide)]; exact e8
  · rw [h1 228 (by decide) (by decide), h2 9 (by decide) (by decide)]; exact e9
  · rw [h1 228 (by decide) (by decide), h2 18 (by decide) (by decide)]; exact e7
theorem pI_7 {T : Nat} {w : qMem} (H : pI T w) (v : Int32) : pI T (quw w 238 7 v) :=
  pI_obs H (fun c c1 _ => by rw [pz_wr, pz_rn (by omega)]) (fun k k1 _ => pz_wk k1) (fun k _ => pz_wn (by decide)) (fun c c1 => by rw [pz_wr, pz_rn (by omega)])
theorem pR_7 {w : qMem} {S : pSt} (v : Int32) (H : pR (w 239) S) : pR (quw w 238 7 v 239) S := by rw [pz_wr, pz_rn (by decide)]; exact H
theorem pw_7 {w : qMem} {v : Int32} {k : Nat} : quw w 238 7 v 239 k = w 239 k := pz_wn (by decide)
-- where the class threw and the reference told so; where both answered
theorem ql_no {w w9 : qMem} {α : Type} {k : Int32} {r b z : α} {g : α → α → Option qMem} (hk : ¬ k = 0) (h7 : w9 238 7 = k) : (qbdn (some (k, z, w)) fun (k2 : Int32) (r1 : α) (_ : qMem) => qbd2 (some (b, w9)) fun (b7 : α) (w9 : qMem) => qbd (fX6_thrown w9) fun (b10 : Int32) => if b10 = k2 then if k2 = 0 then g r1 b7 else some w9 else none) = some w9 := by
  rw [pz_bn, pz_b2, fX6_thrown, h7, pz_b, if_pos rfl, if_neg hk]
theorem pq_29 {T : Nat} {w : qMem} (a1 a2 a3 : Int32) (H : pI T w) : ∃ w1 : qMem, qs_29 w a1 a2 a3 = some w1 ∧ pI (T + 2000) w1 := by
  have e7 := H.2.2.2.2.2.2.2
  refine ⟨quw w 238 7 0, ?_, (pI_7 H 0).mo (by omega)⟩
  unfold qs_29 fX5_errorPosition fX6_errorPosition
  rw [pz_b, pz_nm, pz_b2, pz_wk (by decide), if_pos e7]
theorem pq_30 {T : Nat} {w : qMem} (a1 a2 a3 : Int32) (H : pI T w) : ∃ w1 : qMem, qs_30 w a1 a2 a3 = some w1 ∧ pI (T + 2000) w1 := by
  obtain ⟨e8, e9, e7⟩ := H.2.2.2.2.2
  unfold qs_30 fL_refusal fX5_refusal fX6_refusal
  by_cases z : w 238 8 = 0
  · refine ⟨quw w 238 7 1, ?_, (pI_7 H 1).mo (by omega)⟩
    rw [if_pos (e8.trans z)]
    have : qlh [4] (0 : Int32) (some (4, 0, w)) = some (1, 0, w) := rfl
    rw [this, pz_bn, if_pos z]; unfold fX6_refusal_L13
    rw [pz_nm, pz_w, if_neg (by decide), pz_b2, fX6_thrown, pz_w, pz_b, if_pos rfl, if_neg (by decide)]
  · refine ⟨quw w 238 7 0, ?_, (pI_7 H 0).mo (by omega)⟩
    rw [if_neg (fun y => z (e8.symm.trans y))]
    have h0 : ∀ x : Int32, qlh [4] (0 : Int32) (if x = 0 then some (0, w 228 8, w) else some (0, w 228 9, w)) = some (0, if x = 0 then w 228 8 else w 228 9, w) := fun x => by split <;> rfl
    rw [h0, pz_bn, if_neg z]; unfold fX6_refusal_L13
    rw [pz_nm, pz_w, if_pos (by decide), pz_wk (by decide), pz_wk (by decide)]
    have h1 : ∀ x : Int32, (if x = 0 then some (w 238 8, quw w 238 7 0) else some (w 238 9, quw w 238 7 0)) = some (if x = 0 then w 238 8 else w 238 9, quw w 238 7 0) := fun x => by split <;> rfl
    rw [h1, pz_b2, fX6_thrown, pz_w, pz_b, if_pos rfl, if_pos rfl, e8, e9, if_pos rfl]
theorem pq_11 {T : Nat} {w : qMem} (a1 a2 a3 : Int32) (H : pI T w) : ∃ w1 : qMem, qs_11 w a1 a2 a3 = some w1 ∧ pI (T + 2000) w1 := by
  obtain ⟨S, hW, hH, hR⟩ := H.1
  have hq := hW.2.2.1
  have e4 : w 0 4 = nI (sQ S) := hH.2.1
  have r4 : w 239 6 = nI (sQ S) := hR.2.1
  -- the place as a prop's number among sQ S
  have hin : (∃ i, i < sQ S ∧ a1 = nI i ∧ ¬ a1 < 0 ∧ a1 < nI (sQ S)) ∧ fX6_in w a1 0 (w 239 6 - 1) = some 1 ∨ (a1 < 0 ∨ (¬ a1 < 0 ∧ ¬ a1 < nI (sQ S))) ∧ fX6_in w a1 0 (w 239 6 - 1) = some 0 := by
    rcases pj_prop (sQ S) (by omega) a1 with ⟨h, g⟩ | ⟨h, g⟩
    · have := g (quw w 239 0 (nI (sQ S))) pz_w
      unfold fX6_isProp at this
      rw [pz_w] at this
      refine Or.inl ⟨h, ?_⟩
      rw [r4]
      unfold fX6_in at this ⊢
      by_cases z1 : a1 < 0
      · obtain ⟨i, _, _, z, _⟩ := h
        exact absurd z1 z
      · rw [if_neg z1] at this ⊢
        by_cases z2 : nI (sQ S) - 1 < a1
        · rw [if_pos z2, pz_b] at this; exact absurd this (by decide)
        · rw [if_neg z2]
    · have := g (quw w 239 0 (nI (sQ S))) pz_w
      unfold fX6_isProp at this
      rw [pz_w] at this
      refine Or.inr ⟨h, ?_⟩
      rw [r4]
      unfold fX6_in at this ⊢
      by_cases z1 : a1 < 0
      · rw [if_pos z1]
      · rw [if_neg z1] at this ⊢
        by_cases z2 : nI (sQ S) - 1 < a1
        · rw [if_pos z2]
        · rw [if_neg z2, pz_b] at this; exact absurd this (by decide)
  unfold qs_11 fL_programme fX5_programme
  rcases hin with ⟨⟨i, hi, ea, b1, b2⟩, hx⟩ | ⟨hb, hx⟩
  · refine ⟨quw w 238 7 0, ?_, (pI_7 H 0).mo (by omega)⟩
    have eP : fX0_plannedAt w 0 a1 = some (w 15 i) := by
      unfold fX0_plannedAt
      rw [ea, if_neg (nI_pos (by omega)), if_neg (show ¬ (8 : Int32) ≤ nI i from nI_ge (b := 8) (by omega) (by omega)), if_pos (pz_qin (by omega) (by omega)), pz_nI (by omega)]
    have e7 : (7 : Int32) + a1 = nI (7 + i) := by rw [ea]; exact nI_add 7 _
    rw [if_neg b1, e4, if_pos b2, eP, pz_b]
    have : qlh [4] (0 : Int32) (some (0, w 15 i, w)) = some (0, w 15 i, w) := rfl
    rw [this, pz_bn]; unfold fX6_programme
    rw [hx, pz_b, if_neg (by decide), pz_nm, pz_w, if_pos (by decide), e7, if_pos (pz_qin (by omega) (by omega)), pz_nI (by omega), pz_b2, fX6_thrown, pz_w, pz_b, if_pos rfl, if_pos rfl, pz_wn (by decide)]
    have q1 := hH.2.2.1 i hi
    have q2 := hR.2.2.1 i hi
    rw [if_pos (q1.trans q2.symm)]
  · refine ⟨quw w 238 7 1, ?_, (pI_7 H 1).mo (by omega)⟩
    have : qlh [4] (0 : Int32) (if a1 < 0 then some (4, 0, w) else if a1 < w 0 4 then qbd (fX0_plannedAt w 0 a1) fun (r4 : Int32) => some (0, r4, w) else some (4, 0, w)) = some (1, 0, w) := by
      rw [e4]
      rcases hb with z | ⟨z1, z2⟩
      · rw [if_pos z]; rfl
      · rw [if_neg z1, if_neg z2]; rfl
    rw [this, pz_bn]; unfold fX6_programme
    rw [hx, pz_b, if_pos rfl, pz_nm, pz_w, if_neg (by decide), pz_b2, fX6_thrown, pz_w, pz_b, if_pos rfl, if_neg (by decide)]
