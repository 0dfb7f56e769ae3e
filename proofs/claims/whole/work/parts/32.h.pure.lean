-- a text run by class and reference
theorem pI_run {T T' : Nat} {w w' : qMem} (H : pI T w) (hT : T ≤ T') (f1 : ∀ c, ((38 ≤ c ∧ c < 57) ∨ c = 236 ∨ c = 237 ∨ c = 242 ∨ c = 244) → w' c = w c) (f2 : w' 228 6 = w 228 6) (f3 : ∀ k, k = 4 ∨ k = 13 → w' 238 k = w 238 k) (hX : w' 231 1 = 0 ∧ w' 238 15 = 0) (hS : ∃ S : pSt, pW T' S ∧ pH w' 0 S ∧ pR (w' 239) S) (hH : pHis T' w') (h8 : w' 228 8 = w' 238 8) (h9 : w' 228 9 = w' 238 9) (h7 : w' 228 7 = w' 238 18) : pI T' w' := by
  obtain ⟨_, _, hv, _, hL, _, _, _⟩ := H
  refine ⟨hS, hH, ?_, ⟨0, by omega, hX.1, hX.2, fun j hj => absurd hj (Nat.not_lt_zero _)⟩, pLn_same hL (by rw [f1 236 (by omega)]) (f1 237 (by omega)) (f1 244 (by omega)) (f3 13 (by omega)), h8, h9, h7⟩
  rcases hv with ⟨a, b⟩ | ⟨a, b, S, hW, hS2, hR2⟩
  · exact Or.inl ⟨by rw [f2]; exact a, by rw [f3 4 (by omega)]; exact b⟩
  · exact Or.inr ⟨by rw [f2]; exact a, by rw [f3 4 (by omega)]; exact b, S, hW.mo hT, ph_same hW (fun c h1 h2 => f1 c (by omega)) hS2, by rw [f1 242 (by omega)]; exact hR2⟩
theorem pr_run0 {w : qMem} {t : Nat → Int32} {n : Nat} (h15 : w 238 15 = nI n) (h : ∀ j, j < n → w 245 j = t j) : ∃ wa : qMem, fX6_run w = (qbd (fX6_readOrder wa) fun (w5 : qMem) => fX6_run_L19 12 w5) ∧ pRs wa t n 0 0 ∧ wa 238 20 = nI 0 ∧ (∀ c, c ≠ 238 → wa c = w c) ∧ ∀ k, k ≠ 16 → k ≠ 17 → k ≠ 20 → wa 238 k = w 238 k := by
  refine ⟨quw (quw (quw w 238 16 0) 238 17 0) 238 20 0, ?_, ⟨?_, ?_, ?_, fun j hj => ?_⟩, pz_w, fun c hc => by rw [pz_wr, pz_rn hc, pz_wr, pz_rn hc, pz_wr, pz_rn hc], fun k h1 h2 h3 => by rw [pz_wk h3, pz_wk h2, pz_wk h1]⟩
  · unfold fX6_run
    rw [pz_nm, pz_nm, pz_nm]
  · rw [pz_wk (by decide), pz_wk (by decide), pz_wk (by decide)]; exact h15
  · rw [pz_wk (by decide), pz_wk (by decide), pz_w]; rfl
  · rw [pz_wk (by decide), pz_w]
  · rw [pz_wn (by decide), pz_wn (by decide), pz_wn (by decide)]; exact h j hj
theorem pc_read0 {w : qMem} {n : Nat} (h1 : w 231 1 = nI n) : ∃ w2 : qMem, fX4_read w = fX4_read_L12 100 w2 0 ∧ pCs w2 (w 232) n 0 ∧ w2 231 5 = nI 0 ∧ (∀ c, c ≠ 231 → w2 c = w c) ∧ ∀ k, k ≠ 5 → k ≠ 6 → w2 231 k = w 231 k := by
  refine ⟨quw (quw w 231 6 0) 231 5 0, ?_, ⟨?_, ?_, fun j hj => ?_⟩, pz_w, fun c hc => by rw [pz_wr, pz_rn hc, pz_wr, pz_rn hc], fun k h1 h2 => by rw [pz_wk h1, pz_wk h2]⟩
  · unfold fX4_read
    rw [pz_nm, pz_nm]
  · rw [pz_wk (by decide), pz_wk (by decide)]; exact h1
  · rw [pz_wk (by decide), pz_w]; rfl
  · rw [pz_wn (by decide), pz_wn (by decide)]
theorem pq_28 {T : Nat} {w : qMem} (a1 a2 a3 : Int32) (H : pI T w) : ∃ w1 : qMem, qs_28 w a1 a2 a3 = some w1 ∧ pI (T + 2000) w1 := by
  obtain ⟨⟨S, hW, hH, hR⟩, hHis, hSav, ⟨n, hn, t1, t2, t3⟩, hLn, hE8, hE9, hE7⟩ := id H
  obtain ⟨d, x, hd, hx, b1, b2, b3, b4⟩ := id hHis
  obtain ⟨N, q, ok, K, A, B, D, E, hN, hq, hDo, hc, hr⟩ := pb_read (t := w 232) hn 11 0 0 rfl (Nat.zero_le _) (Nat.zero_le _)
  obtain ⟨w2, c2, H2, g5, k2, m2⟩ := pc_read0 t1
  obtain ⟨w3, c3, l3, v3⟩ := hc w2 100 (by decide) H2 g5
  have eRd : fX4_read w = some (if ok = true then -1 else nI q, w3) := c2.trans c3
  -- the memory behind the class's reading
  obtain ⟨w5, e5, p1, p7, p28, pk, p31, p3⟩ : ∃ w5 : qMem, quw (quw w3 228 7 (if ok = true then -1 else nI q)) 231 1 0 = w5 ∧ w5 231 1 = 0 ∧ w5 228 7 = (if ok = true then -1 else nI q) ∧ (∀ k, k ≠ 7 → w5 228 k = w 228 k) ∧ (∀ c, c ≠ 228 → c ≠ 231 → c ≠ 233 → c ≠ 234 → c ≠ 235 → w5 c = w c) ∧ w5 231 5 = w3 231 5 ∧ ∀ c, c ≠ 228 → c ≠ 231 → w5 c = w3 c :=
    ⟨_, rfl, pz_w, by rw [pz_wn (by decide), pz_w], fun k hk => by rw [pz_wn (by decide), pz_wk hk, l3.1 228 (by decide) (by decide) (by decide) (by decide), k2 228 (by decide)], fun c h1 h2 h3 h4 h5 => by rw [pz_wr, pz_rn h2, pz_wr, pz_rn h1, l3.1 c h2 h3 h4 h5, k2 c h2], by rw [pz_wk (by decide), pz_wn (by decide)], fun c h1 h2 => by rw [pz_wr, pz_rn h2, pz_wr, pz_rn h1]⟩
  have e7 : quw w3 228 7 (if ok = true then -1 else nI q) 231 1 = w3 231 1 := pz_wn (by decide)
  by_cases z : ok = true
  · -- it could be read
    obtain ⟨v5, vA⟩ := v3 z
    obtain ⟨w8, e8, n1, n2⟩ := pc_note (w := w5) (x := x) hx (by rw [pk 229 (by decide) (by decide) (by decide) (by decide) (by decide)]; exact b1) hW (ph_same hW (fun c c1 c2 => pk c (by omega) (by omega) (by omega) (by omega) (by omega)) hH)
    obtain ⟨t, rs, dt, S', hW', ht, gc, gr⟩ := pb_go hN (fun j hj T => hDo z j (Nat.zero_le _) hj T) N 0 T S (by omega) hW
    obtain ⟨w9, e9, y1, y2, y3, y4, y5⟩ := gc w8 100 (by omega) (ph_same hW (fun c c1 c2 => by rw [n2 c (by omega), pk c (by omega) (by omega) (by omega) (by omega) (by omega)]) hH) (by rw [n2 231 (by omega), p31]; exact v5) (fun j hj => by rw [n2 233 (by omega), n2 234 (by omega), n2 235 (by omega), p3 233 (by decide) (by decide), p3 234 (by decide) (by decide), p3 235 (by decide) (by decide)]; exact vA j (Nat.zero_le _) hj)
    have w9c : ∀ c, 19 ≤ c → c ≠ 228 → c ≠ 231 → c ≠ 233 → c ≠ 234 → c ≠ 235 → (c < 19 * (3 + x) ∨ 19 * (3 + x) + 19 ≤ c) → w9 c = w c := fun c h1 h2 h3 h4 h5 h6 h7 => by rw [y1 c h1 h2, n2 c h7, pk c h2 h3 h4 h5 h6]
    have w9k : ∀ k, k ≠ 7 → k ≠ 8 → k ≠ 9 → k ≠ 10 → w9 228 k = w 228 k := fun k h0 h1 h2 h3 => by rw [y2 k h1 h2 h3, n2 228 (by omega), p28 k h0]
    have w97 : w9 228 7 = -1 := by rw [y2 7 (by decide) (by decide) (by decide), n2 228 (by omega), p7, if_pos z]
    have w9n : pH w9 (3 + x) S := ph_same hW (fun c h1 h2 => y1 c (by omega) (by omega)) n1
    have cls : fX5_run w = fX5_run_L101 w9 t := by
      have e9' : fX5_run_L51 100 w8 0 0 = fX5_run_L101 w9 t := e9
      unfold fX5_run
      rw [eRd, pz_b2, pz_nm, pz_nm, e5, if_pos (show w5 228 7 < 0 by rw [p7, if_pos z]; decide), e8, pz_b, e9']
    -- the reference, from a memory that the class leaves
    have rf : ∀ w10 : qMem, (∀ c, 238 ≤ c → w10 c = w c) → ∃ (w12 w13 : qMem), fX6_run w10 = (qbd2 (fX6_ends w13 (if t = 0 then nI N else 0)) fun (r : Int32) (w2 : qMem) => some (r, w2)) ∧ pGr2 w12 w13 t rs dt S' ∧ (∀ c, c ≠ 238 → c ≠ 240 → c ≠ 246 → w12 c = w10 c) ∧ (∀ k, k ≠ 7 → k ≠ 15 → k ≠ 16 → k ≠ 17 → k ≠ 18 → k ≠ 20 → w12 238 k = w 238 k) ∧ w12 238 15 = 0 ∧ w12 238 18 = -1 ∧ ∀ k, k < 99 → w12 240 k = w 239 k := fun w10 h10 => by
      obtain ⟨wa, ea, Ha, ha20, ka, ma⟩ := pr_run0 (w := w10) (t := w 232) (n := n) (by rw [h10 238 (by decide)]; exact t2) (fun j hj => by rw [h10 245 (by decide)]; exact (t3 j hj).1.symm)
      obtain ⟨w11, e11, l11, h15, h18, h11⟩ := hr wa 12 (by decide) Ha ha20
      rw [if_pos z] at e11 h18
      obtain ⟨h20, hdd⟩ := h11 z
      obtain ⟨w12, e12, r1, r2, r3⟩ := pr_keep w11
      obtain ⟨w13, e13, G⟩ := gr w12 100 (by omega) (by rw [r2 239 (by decide) (by decide), l11.1 239 (by decide) (by decide), ka 239 (by decide), h10 239 (by decide)]; exact hR) (by rw [r3, pz_u]) (by rw [r3, pz_un (by decide)]; exact h20) (fun j _ hj => (hdd j (Nat.zero_le _) hj).tr (fun u _ => by rw [r2 246 (by decide) (by decide)]))
      have e13' : fX6_run_L117 100 w12 0 = (qbd2 (fX6_ends w13 (if t = 0 then nI N else 0)) fun (r : Int32) (w2 : qMem) => some (r, w2)) := e13
      refine ⟨w12, w13, by rw [ea, e11, e12, pz_b, e13'], G, fun c c1 c2 c3 => by rw [r2 c c1 c2, l11.1 c c1 c3, ka c c1], fun k h1 h2 h3 h4 h5 h6 => by rw [r3, pz_un h1, l11.2.1 k h2 h3 h4 h5 h6, ma k h3 h4 h6, h10 238 (by decide)], by rw [r3, pz_un (by decide)]; exact h15, by rw [r3, pz_un (by decide)]; exact h18, fun k hk => by rw [r1 k hk, l11.1 239 (by decide) (by decide), ka 239 (by decide), h10 239 (by decide)]⟩
    by_cases ht0 : t = 0
    · obtain ⟨w10, e10, u1, u2, u3⟩ := pc_keep (w := w9) (x := x) (d := d) hx hd (by rw [w9c 229 (by decide) (by decide) (by decide) (by decide) (by decide) (by decide) (by omega)]; exact b1) (by rw [w9c 229 (by decide) (by decide) (by decide) (by decide) (by decide) (by decide) (by omega)]; exact b2)
      obtain ⟨w12, w13, e13, ⟨G1, G2, G3, G4, G5, G6⟩, f1, f2, f15, f18, f40⟩ := rf w10 (fun c hc => by rw [u1 c (by omega), w9c c (by omega) (by omega) (by omega) (by omega) (by omega) (by omega) (by omega)])
      rw [if_pos ht0] at e13 G4
      have w13k : ∀ k, k ≠ 7 → k ≠ 8 → k ≠ 9 → k ≠ 10 → k ≠ 11 → k ≠ 15 → k ≠ 16 → k ≠ 17 → k ≠ 18 → k ≠ 20 → w13 238 k = w 238 k := fun k h1 h2 h3 h4 h5 h6 h7 h8 h9 h10 => by rw [G2 k h1 h2 h3 h4 h5, f2 k h1 h6 h7 h8 h9 h10]
      obtain ⟨w14, e, e14, s1, s2, s3, s4⟩ := pr_end0 (w := w13) (d := d) (x1 := nI N) hd (by rw [w13k 6 (by decide) (by decide) (by decide) (by decide) (by decide) (by decide) (by decide) (by decide) (by decide) (by decide)]; exact b3) G4
      have wl : ∀ c, c < 238 → w14 c = w10 c := fun c hc => by rw [s1 c (by omega) (by omega), G1 c (by omega) (by omega), f1 c (by omega) (by omega) (by omega)]
      have wl2 : ∀ c, c < 238 → c ≠ 229 → w14 c = w9 c := fun c hc h => by rw [wl c hc, u1 c h]
      have h5 : w10 231 5 = nI N := by rw [u1 231 (by decide), y1 231 (by decide) (by decide), n2 231 (by omega), p31]; exact v5
      refine ⟨w14, ?_, ?_⟩
      · have cl2 : fL_run w = some (0, nI N, w10) := by
          unfold fL_run
          rw [cls]; unfold fX5_run_L101
          rw [if_pos ht0, e10, pz_b, h5]; rfl
        unfold qs_28
        rw [cl2, pz_bn, e13, e14, pz_b2, pz_b2, fX6_thrown, s2, pz_un (by decide), G4, pz_b, if_pos rfl, if_pos rfl, if_pos rfl]
      · refine pI_run (T' := T + 2000) H (by omega) (fun c hc => ?_) ?_ (fun k hk => ?_) ⟨?_, ?_⟩ ⟨S', hW'.mo (by omega), ph_same hW' (fun c c1 c2 => wl2 c (by omega) (by omega)) (y3 ht0), by rw [s1 239 (by decide) (by decide)]; exact G3 ht0⟩ ?_ ?_ ?_ ?_
        · by_cases hc2 : c < 238
          · rw [wl2 c hc2 (by omega), w9c c (by omega) (by omega) (by omega) (by omega) (by omega) (by omega) (by omega)]
          · rw [s1 c (by omega) (by omega), G1 c (by omega) (by omega), f1 c (by omega) (by omega) (by omega), u1 c (by omega), w9c c (by omega) (by omega) (by omega) (by omega) (by omega) (by omega) (by omega)]
        · rw [wl2 228 (by decide) (by decide)]; exact w9k 6 (by decide) (by decide) (by decide) (by decide)
        · rw [s2, pz_un (by omega)]; exact w13k k (by omega) (by omega) (by omega) (by omega) (by omega) (by omega) (by omega) (by omega) (by omega) (by omega)
        · rw [wl2 231 (by decide) (by decide), y1 231 (by decide) (by decide), n2 231 (by omega)]; exact p1
        · rw [s2, pz_un (by decide), G2 15 (by decide) (by decide) (by decide) (by decide) (by decide)]; exact f15
        · refine (pHis_push (T := T) (T' := T + 2000) (w := w) (S := S) (e := e) (by omega) hd hx b4 (fun c q1 q2 => ?_) ?_ ?_ ?_ hW ?_ ?_ ?_)
          · rw [wl2 c (by omega) (by omega), w9c c (by omega) (by omega) (by omega) (by omega) (by omega) (by omega) q2]
          · rw [wl 229 (by decide)]; exact u2
          · rw [wl 229 (by decide)]; exact u3
          · rw [s2, pz_u]
          · exact ph_same hW (fun c h1 h2 => wl2 c (by omega) (by omega)) w9n
          · refine pr_cg hW (fun k hk => ?_) hR
            show w14 243 (99 * e + k) = w 239 k
            rw [s4 k hk, G1 240 (by decide) (by decide), f40 k hk]
          · have w243 : w13 243 = w 243 := by rw [G1 243 (by decide) (by decide), f1 243 (by decide) (by decide) (by decide), u1 243 (by decide), w9c 243 (by decide) (by decide) (by decide) (by decide) (by decide) (by decide) (by omega)]
            rw [← w243]; exact s3
        · rw [wl2 228 (by decide) (by decide), (y5 (by rw [ht0]; decide)).1, n2 228 (by omega), p28 8 (by decide), s2, pz_un (by decide), (G6 (by rw [ht0]; decide)).1, f2 8 (by decide) (by decide) (by decide) (by decide) (by decide) (by decide)]; exact hE8
        · rw [wl2 228 (by decide) (by decide), (y5 (by rw [ht0]; decide)).2, n2 228 (by omega), p28 9 (by decide), s2, pz_un (by decide), (G6 (by rw [ht0]; decide)).2, f2 9 (by decide) (by decide) (by decide) (by decide) (by decide) (by decide)]; exact hE9
        · rw [wl2 228 (by decide) (by decide), w97, s2, pz_un (by decide), G2 18 (by decide) (by decide) (by decide) (by decide) (by decide), f18]
    · obtain ⟨w10, e10, u1, u2⟩ := pc_cnt (w := w9) (x := x) hx (by rw [w9c 229 (by decide) (by decide) (by decide) (by decide) (by decide) (by decide) (by omega)]; exact b1) hW w9n
      obtain ⟨w12, w13, e13, ⟨G1, G2, G3, G4, G5, G6⟩, f1, f2, f15, f18, f40⟩ := rf w10 (fun c hc => by rw [u2 c (by omega), w9c c (by omega) (by omega) (by omega) (by omega) (by omega) (by omega) (by omega)])
      rw [if_neg ht0] at e13 G4
      have n7 : ¬ w13 238 7 ≤ 0 := by
        rw [G4]; split <;> decide
      obtain ⟨w14, e14, s1, s2⟩ := pr_end1 (w := w13) (x1 := 0) n7
      have w13k : ∀ k, k ≠ 7 → k ≠ 8 → k ≠ 9 → k ≠ 10 → k ≠ 11 → k ≠ 15 → k ≠ 16 → k ≠ 17 → k ≠ 18 → k ≠ 20 → w14 238 k = w 238 k := fun k h1 h2 h3 h4 h5 h6 h7 h8 h9 h10 => by rw [s1 238 (by decide), G2 k h1 h2 h3 h4 h5, f2 k h1 h6 h7 h8 h9 h10]
      have wl : ∀ c, c < 238 → w14 c = w10 c := fun c hc => by rw [s1 c (by omega), G1 c (by omega) (by omega), f1 c (by omega) (by omega) (by omega)]
      have wl2 : ∀ c, 19 ≤ c → c < 238 → w14 c = w9 c := fun c h hc => by rw [wl c hc, u2 c h]
      refine ⟨w14, ?_, ?_⟩
      · have cl2 : fL_run w = some (if t = 3 then 2 else 1, 0, w10) := by
          unfold fL_run
          rw [cls]; unfold fX5_run_L101
          rw [if_neg ht0, e10, pz_b]
          by_cases y : t = 3
          · rw [if_pos y, if_pos y]; rfl
          · rw [if_neg y, if_neg y]; rfl
        have h97 : w14 238 7 = (if t = 3 then 2 else 1) := by rw [s1 238 (by decide)]; exact G4
        unfold qs_28
        rw [cl2, pz_bn, e13, e14, pz_b2, pz_b2, fX6_thrown, h97, pz_b, if_pos rfl, if_neg]
        split <;> decide
      · refine pI_run (T' := T + 2000) H (by omega) (fun c hc => ?_) ?_ (fun k hk => ?_) ⟨?_, ?_⟩ ⟨S, hW.mo (by omega), ph_same hW (fun c c1 c2 => wl c (by omega)) u1, pr_cg hW (fun k hk => by rw [s2 k hk, G1 240 (by decide) (by decide), f40 k hk]) hR⟩ ?_ ?_ ?_ ?_
        · by_cases hc2 : c < 238
          · rw [wl2 c (by omega) hc2, w9c c (by omega) (by omega) (by omega) (by omega) (by omega) (by omega) (by omega)]
          · rw [s1 c (by omega), G1 c (by omega) (by omega), f1 c (by omega) (by omega) (by omega), u2 c (by omega), w9c c (by omega) (by omega) (by omega) (by omega) (by omega) (by omega) (by omega)]
        · rw [wl2 228 (by decide) (by decide)]; exact w9k 6 (by decide) (by decide) (by decide) (by decide)
        · exact w13k k (by omega) (by omega) (by omega) (by omega) (by omega) (by omega) (by omega) (by omega) (by omega) (by omega)
        · rw [wl2 231 (by decide) (by decide), y1 231 (by decide) (by decide), n2 231 (by omega)]; exact p1
        · rw [s1 238 (by decide), G2 15 (by decide) (by decide) (by decide) (by decide) (by decide)]; exact f15
        · refine pHis_same (T := T) (T' := T + 2000) (by omega) hHis hx b1 (fun c q1 q2 => ?_) ?_ ?_ ?_
          · rw [wl2 c (by omega) (by omega), w9c c (by omega) (by omega) (by omega) (by omega) (by omega) (by omega) q2]
          · rw [wl2 229 (by decide) (by decide), w9c 229 (by decide) (by decide) (by decide) (by decide) (by decide) (by decide) (by omega)]
          · exact w13k 6 (by decide) (by decide) (by decide) (by decide) (by decide) (by decide) (by decide) (by decide) (by decide) (by decide)
          · rw [s1 243 (by decide), G1 243 (by decide) (by decide), f1 243 (by decide) (by decide) (by decide), u2 243 (by decide), w9c 243 (by decide) (by decide) (by decide) (by decide) (by decide) (by decide) (by omega)]
        · rw [wl2 228 (by decide) (by decide), s1 238 (by decide)]
          by_cases y : t = 3
          · rw [(y4 y).1, (G5 y).1]
          · rw [(y5 y).1, n2 228 (by omega), p28 8 (by decide), (G6 y).1, f2 8 (by decide) (by decide) (by decide) (by decide) (by decide) (by decide)]; exact hE8
        · rw [wl2 228 (by decide) (by decide), s1 238 (by decide)]
          by_cases y : t = 3
          · rw [(y4 y).2, (G5 y).2]
          · rw [(y5 y).2, n2 228 (by omega), p28 9 (by decide), (G6 y).2, f2 9 (by decide) (by decide) (by decide) (by decide) (by decide) (by decide)]; exact hE9
        · rw [wl2 228 (by decide) (by decide), w97, s1 238 (by decide), G2 18 (by decide) (by decide) (by decide) (by decide) (by decide), f18]
  · -- an error in the text
    have hC : fL_run w = some (1, 0, w5) := by
      unfold fL_run fX5_run
      rw [eRd, pz_b2, pz_nm, pz_nm, e5, if_neg (show ¬ w5 228 7 < 0 by rw [p7, if_neg z]; exact nI_pos (by omega))]; rfl
    have h10 : ∀ c, 236 ≤ c → w5 c = w c := fun c hc => pk c (by omega) (by omega) (by omega) (by omega) (by omega)
    obtain ⟨wa, ea, Ha, ha20, ka, ma⟩ := pr_run0 (w := w5) (t := w 232) (n := n) (by rw [h10 238 (by decide)]; exact t2) (fun j hj => by rw [h10 245 (by decide)]; exact (t3 j hj).1.symm)
    obtain ⟨w11, e11, l11, h15, h18, _⟩ := hr wa 12 (by decide) Ha ha20
    rw [if_neg z] at e11 h18
    have hR : fX6_run w5 = some (0, quw w11 238 7 1) := by
      rw [ea, e11, pr_fail, pz_b2]
    have wl : ∀ c, c ≠ 238 → c ≠ 246 → quw w11 238 7 1 c = w5 c := fun c h1 h2 => by rw [pz_wr, pz_rn h1, l11.1 c h1 h2, ka c h1]
    have wk : ∀ k, k ≠ 7 → k ≠ 15 → k ≠ 16 → k ≠ 17 → k ≠ 18 → k ≠ 20 → quw w11 238 7 1 238 k = w 238 k := fun k h1 h2 h3 h4 h5 h6 => by rw [pz_wk h1, l11.2.1 k h2 h3 h4 h5 h6, ma k h3 h4 h6, h10 238 (by decide)]
    refine ⟨quw w11 238 7 1, ?_, ?_⟩
    · unfold qs_28
      rw [hC, pz_bn, hR, pz_b2, fX6_thrown, pz_w, pz_b, if_pos rfl, if_neg (by decide)]
    · refine pI_run (T' := T + 2000) H (by omega) (fun c hc => ?_) ?_ (fun k hk => ?_) ⟨?_, ?_⟩ ⟨S, hW.mo (by omega), ph_same hW (fun c c1 c2 => ?_) hH, ?_⟩ ?_ ?_ ?_ ?_
      · rw [wl c (by omega) (by omega), pk c (by omega) (by omega) (by omega) (by omega) (by omega)]
      · rw [wl 228 (by decide) (by decide), p28 6 (by decide)]
      · exact wk k (by omega) (by omega) (by omega) (by omega) (by omega) (by omega)
      · rw [wl 231 (by decide) (by decide)]; exact p1
      · rw [pz_wk (by decide)]; exact h15
      · rw [wl c (by omega) (by omega), pk c (by omega) (by omega) (by omega) (by omega) (by omega)]
      · rw [wl 239 (by decide) (by decide), h10 239 (by decide)]; assumption
      · refine pHis_same (T := T) (T' := T + 2000) (by omega) hHis hx b1 (fun c q1 q2 => ?_) ?_ ?_ ?_
        · rw [wl c (by omega) (by omega), pk c (by omega) (by omega) (by omega) (by omega) (by omega)]
        · rw [wl 229 (by decide) (by decide), pk 229 (by decide) (by decide) (by decide) (by decide) (by decide)]
        · exact wk 6 (by decide) (by decide) (by decide) (by decide) (by decide) (by decide)
        · rw [wl 243 (by decide) (by decide), h10 243 (by decide)]
      · rw [wl 228 (by decide) (by decide), p28 8 (by decide), wk 8 (by decide) (by decide) (by decide) (by decide) (by decide) (by decide)]; exact hE8
      · rw [wl 228 (by decide) (by decide), p28 9 (by decide), wk 9 (by decide) (by decide) (by decide) (by decide) (by decide) (by decide)]; exact hE9
      · rw [wl 228 (by decide) (by decide), p7, if_neg z, pz_wk (by decide), h18]
